
set_option maxHeartbeats 4000000 in
set_option maxRecDepth 100000 in
theorem c_Sh_hasUnitP (l : Launch) (D : va_G) (cI cZ cJ cS : ClassId) (aT : Nat) (ceT : Cell) (h0 : Nat) (tn : Int32) (qu qo qx qy qr qw : Nat) (fu : Nat → Int32) (a : Nat) (h_a : a < 12) : Met l y_Sh_hasUnit w_Sh_hasUnit ({ frames := 0, cells := 0, slots := 0, locals := 0 }) (tP D cI cZ cJ cS aT ceT [.ref h0, .int (nI a)] [(h0, .inr (3, [.int tn, .ref qu, .ref qo, .ref qx, .ref qy, .ref qr, .ref qw])), (qu, .inl (cI, 12, .inl fu))]) (vp_Si (fun r => r = bI (!decide (fu a = -1)))) 0 0 (fun _ => False) := by
  refine Met.ofW (cc := b_Sh_hasUnit) (maxL := 2) (ret := (some .boolean)) (by decide) rfl ?_
  intro p e s m args below meth c s₁ B hml hv
  obtain ⟨rfl, hP, hK, hX⟩ := hv
  have hx := B.exec
  have hb := B.bytes
  have hr := B.returns
  have hts0 := atoms_spec (ws := w_Sh_hasUnit) B.pre
  have hts : ∀ w ∈ TB, w.before _ s = true := fun w h => hts0 w (List.mem_cons_of_mem _ h)
  have hown : s.vm.findClass R_Sh = some m.cls := findClass_of_methodNamed B.named
  have hlocks := B.notSynchronized
  have hXH : s.heap[aT]? = s.heap[aT]? := rfl
  have hl := lv_entry ([.ref h0, .int (nI a)]) (n := 2) (Nat.le_of_ble_eq_true rfl)
  rw [lg_entry_eq]
  generalize (lg_sl ([.ref h0, .int (nI a)]) ++ List.replicate (2 - (lg_sl ([.ref h0, .int (nI a)])).length) Slot.unset).toArray = ls at hl ⊢
  have hl : lv_has ls 2 [(0, .ref h0), (1, .int (nI a))] := hl
  refine lv_aload_n hx hb d_Sh_hasUnit_0 rfl (lv_at hl 0 rfl) ?_
  refine va_get (D := D) (ci := 3) (v := .ref qu) (C := R_Sh) (T := T_Sh) (N := 7) hx hb hts hin_Sh hown hK hP 0 rfl rfl 1 (by decide) (hts _ wd_64) (fun _ h9 => h9) rfl d_Sh_hasUnit_1 ?_
  refine lv_iload_n hx hb d_Sh_hasUnit_4 rfl (lv_at hl 1 rfl) ?_
  refine tr_iald (v := fu a) hx hb hK hP 1 0 rfl rfl a h_a (by decide) rfl d_Sh_hasUnit_5 ?_
  refine lv_iconst (v := (-1)) hx hb d_Sh_hasUnit_6 (by decide) ?_
  refine lv_icmp_eq (tgt := 14) hx hb d_Sh_hasUnit_7 (by decide) (fun hc1 => ?_) (fun hc1 => ?_)
  · -- 7 taken
    refine lv_iconst (v := 0) hx hb d_Sh_hasUnit_14 (by decide) ?_
    exact W.zret (v := 0) hx hb hr (by decide) (fun t ht hW => ⟨0, rfl, (bI_f (by simp [hc1])).symm, ht⟩) (fun q hq => by cases hq) d_Sh_hasUnit_15
  · -- 7 not taken
    refine lv_iconst (v := 1) hx hb d_Sh_hasUnit_10 (by decide) ?_
    refine lv_goto (tgt := 15) hx hb d_Sh_hasUnit_11 (by decide) ?_
    exact W.zret (v := 1) hx hb hr (by decide) (fun t ht hW => ⟨1, rfl, (bI_t (by simp [hc1])).symm, ht⟩) (fun q hq => by cases hq) d_Sh_hasUnit_15


set_option maxHeartbeats 4000000 in
set_option maxRecDepth 100000 in
theorem c_Sh_playerAtP (l : Launch) (D : va_G) (cI cZ cJ cS : ClassId) (aT : Nat) (ceT : Cell) (h0 : Nat) (tn : Int32) (qu qo qx qy qr qw : Nat) (fu : Nat → Int32) (a : Nat) (h_a : a < 12) : Met l y_Sh_playerAt w_Sh_playerAt ({ frames := 0, cells := 0, slots := 0, locals := 0 }) (tP D cI cZ cJ cS aT ceT [.ref h0, .int (nI a)] [(h0, .inr (3, [.int tn, .ref qu, .ref qo, .ref qx, .ref qy, .ref qr, .ref qw])), (qu, .inl (cI, 12, .inl fu))]) (vp_Si (fun r => r = fu a / 2)) 0 0 (fun _ => False) := by
  refine Met.ofW (cc := b_Sh_playerAt) (maxL := 2) (ret := (some .int)) (by decide) rfl ?_
  intro p e s m args below meth c s₁ B hml hv
  obtain ⟨rfl, hP, hK, hX⟩ := hv
  have hx := B.exec
  have hb := B.bytes
  have hr := B.returns
  have hts0 := atoms_spec (ws := w_Sh_playerAt) B.pre
  have hts : ∀ w ∈ TB, w.before _ s = true := fun w h => hts0 w (List.mem_cons_of_mem _ h)
  have hown : s.vm.findClass R_Sh = some m.cls := findClass_of_methodNamed B.named
  have hlocks := B.notSynchronized
  have hXH : s.heap[aT]? = s.heap[aT]? := rfl
  have hl := lv_entry ([.ref h0, .int (nI a)]) (n := 2) (Nat.le_of_ble_eq_true rfl)
  rw [lg_entry_eq]
  generalize (lg_sl ([.ref h0, .int (nI a)]) ++ List.replicate (2 - (lg_sl ([.ref h0, .int (nI a)])).length) Slot.unset).toArray = ls at hl ⊢
  have hl : lv_has ls 2 [(0, .ref h0), (1, .int (nI a))] := hl
  refine lv_aload_n hx hb d_Sh_playerAt_0 rfl (lv_at hl 0 rfl) ?_
  refine va_get (D := D) (ci := 3) (v := .ref qu) (C := R_Sh) (T := T_Sh) (N := 7) hx hb hts hin_Sh hown hK hP 0 rfl rfl 1 (by decide) (hts _ wd_64) (fun _ h9 => h9) rfl d_Sh_playerAt_1 ?_
  refine lv_iload_n hx hb d_Sh_playerAt_4 rfl (lv_at hl 1 rfl) ?_
  refine tr_iald (v := fu a) hx hb hK hP 1 0 rfl rfl a h_a (by decide) rfl d_Sh_playerAt_5 ?_
  refine lv_iconst (v := 2) hx hb d_Sh_playerAt_6 (by decide) ?_
  refine lv_idiv hx hb d_Sh_playerAt_7 (by decide) ?_
  exact W.iret (v := (fu a) / 2) hx hb hr (fun t ht hW => ⟨(fu a) / 2, rfl, rfl, ht⟩) (fun q hq => by cases hq) d_Sh_playerAt_8


set_option maxHeartbeats 4000000 in
set_option maxRecDepth 100000 in
theorem c_Sh_kindAtP (l : Launch) (D : va_G) (cI cZ cJ cS : ClassId) (aT : Nat) (ceT : Cell) (h0 : Nat) (tn : Int32) (qu qo qx qy qr qw : Nat) (fu : Nat → Int32) (a : Nat) (h_a : a < 12) : Met l y_Sh_kindAt w_Sh_kindAt ({ frames := 0, cells := 0, slots := 0, locals := 0 }) (tP D cI cZ cJ cS aT ceT [.ref h0, .int (nI a)] [(h0, .inr (3, [.int tn, .ref qu, .ref qo, .ref qx, .ref qy, .ref qr, .ref qw])), (qu, .inl (cI, 12, .inl fu))]) (vp_Si (fun r => r = fu a - fu a / 2 * 2)) 0 0 (fun _ => False) := by
  refine Met.ofW (cc := b_Sh_kindAt) (maxL := 2) (ret := (some .int)) (by decide) rfl ?_
  intro p e s m args below meth c s₁ B hml hv
  obtain ⟨rfl, hP, hK, hX⟩ := hv
  have hx := B.exec
  have hb := B.bytes
  have hr := B.returns
  have hts0 := atoms_spec (ws := w_Sh_kindAt) B.pre
  have hts : ∀ w ∈ TB, w.before _ s = true := fun w h => hts0 w (List.mem_cons_of_mem _ h)
  have hown : s.vm.findClass R_Sh = some m.cls := findClass_of_methodNamed B.named
  have hlocks := B.notSynchronized
  have hXH : s.heap[aT]? = s.heap[aT]? := rfl
  have hl := lv_entry ([.ref h0, .int (nI a)]) (n := 2) (Nat.le_of_ble_eq_true rfl)
  rw [lg_entry_eq]
  generalize (lg_sl ([.ref h0, .int (nI a)]) ++ List.replicate (2 - (lg_sl ([.ref h0, .int (nI a)])).length) Slot.unset).toArray = ls at hl ⊢
  have hl : lv_has ls 2 [(0, .ref h0), (1, .int (nI a))] := hl
  refine lv_aload_n hx hb d_Sh_kindAt_0 rfl (lv_at hl 0 rfl) ?_
  refine va_get (D := D) (ci := 3) (v := .ref qu) (C := R_Sh) (T := T_Sh) (N := 7) hx hb hts hin_Sh hown hK hP 0 rfl rfl 1 (by decide) (hts _ wd_64) (fun _ h9 => h9) rfl d_Sh_kindAt_1 ?_
  refine lv_iload_n hx hb d_Sh_kindAt_4 rfl (lv_at hl 1 rfl) ?_
  refine tr_iald (v := fu a) hx hb hK hP 1 0 rfl rfl a h_a (by decide) rfl d_Sh_kindAt_5 ?_
  refine lv_iconst (v := 2) hx hb d_Sh_kindAt_6 (by decide) ?_
  refine lv_irem hx hb d_Sh_kindAt_7 (by decide) ?_
  exact W.iret (v := (fu a) - (fu a) / 2 * 2) hx hb hr (fun t ht hW => ⟨(fu a) - (fu a) / 2 * 2, rfl, rfl, ht⟩) (fun q hq => by cases hq) d_Sh_kindAt_8

def mxN (f g : Nat → Nat) (i : Nat) : Nat → Nat := fun j => if j < i then f j else g j
theorem mxN_s {f g : Nat → Nat} {i x : Nat} (h : x = f i) : (fun j => nI (upN (fun j => mxN f g i j) i x j)) = fun j => nI (mxN f g (i + 1) j) := by
  funext j
  congr 1
  unfold upN mxN
  by_cases hj : j = i
  · subst hj; simp [h]
  · by_cases h1 : j < i
    · simp [hj, h1, Nat.lt_succ_of_lt h1]
    · simp [hj, h1, show ¬ j < i + 1 by omega]
def mxI (f g : Nat → Int32) (i : Nat) : Nat → Int32 := fun j => if j < i then f j else g j
theorem mxI_at (f g : Nat → Int32) (i : Nat) : mxI f g i i = g i := by simp [mxI]
theorem mxI_0 (f g : Nat → Int32) : mxI f g 0 = g := by funext j; simp [mxI]
theorem mxI_s {f g : Nat → Int32} {i : Nat} {x : Int32} (h : x = f i) : upd (mxI f g i) i x = mxI f g (i + 1) := by
  funext j
  unfold upd mxI
  by_cases hj : j = i
  · subst hj; simp [h]
  · by_cases h1 : j < i
    · simp [hj, h1, Nat.lt_succ_of_lt h1]
    · simp [hj, h1, show ¬ j < i + 1 by omega]
theorem mxI_k {f g : Nat → Int32} {i : Nat} (h : g i = f i) : mxI f g i = mxI f g (i + 1) := by
  funext j
  unfold mxI
  by_cases hj : j = i
  · subst hj; simp [h]
  · by_cases h1 : j < i
    · simp [h1, Nat.lt_succ_of_lt h1]
    · simp [h1, show ¬ j < i + 1 by omega]
/-- those below i with c put v at their X -/
def gpU (c : Nat → Bool) (X : Nat → Nat) (v b : Nat → Int32) : Nat → Nat → Int32
  | 0 => b
  | i + 1 => if c i = true then upd (gpU c X v b i) (X i) (v i) else gpU c X v b i
theorem gpU_Y {c : Nat → Bool} {X : Nat → Nat} {v b : Nat → Int32} {i : Nat} {x : Int32} (h : c i = true) (hx : x = v i) : upd (gpU c X v b i) (X i) x = gpU c X v b (i + 1) := by rw [gpU, if_pos h, hx]
theorem gpU_N {c : Nat → Bool} {X : Nat → Nat} {v b : Nat → Int32} {i : Nat} (h : c i = false) : gpU c X v b i = gpU c X v b (i + 1) := by rw [gpU, if_neg (by rw [h]; decide)]
def ocC (Sd Su : Nat → Bool) (Oo : Nat → Nat) (a : Nat) : Nat := if Sd a = true then 4 else if (decide (Oo a = 1) && !Su a) = true then 2 else if (decide (Oo a = 2) && !Su a) = true then 3 else 1
def ocF (St Sd Su : Nat → Bool) (Oo : Nat → Nat) (a : Nat) : Nat := if St a = true then ocC Sd Su Oo a else 0
def ctS (X : Nat → Nat) (c : Nat → Bool) : Nat → Nat → Bool
  | 0 => fun _ => false
  | i + 1 => fun j => ctS X c i j || (c i && decide (j = X i))
theorem ctS_Y {X : Nat → Nat} {c : Nat → Bool} {i : Nat} (h : c i = true) : mI (fun j => ctS X c i j || decide (j = X i)) = mI (ctS X c (i + 1)) := congrArg mI (funext fun j => by rw [ctS]; simp [h])
theorem ctS_N {X : Nat → Nat} {c : Nat → Bool} {i : Nat} (h : c i = false) : mI (ctS X c i) = mI (ctS X c (i + 1)) := congrArg mI (funext fun j => by rw [ctS]; simp [h])
def ctC (Mv Sp Su : Nat → Bool) (X : Nat → Nat) (fu : Nat → Int32) (j : Nat) : Bool := ((Mv j && Sp j) && !(Su j)) && !(!decide (fu (X j) = -1))

theorem d_Se_outcome_0 : decode b_Se_outcome 0 = .ok (.aload_n 0, 1) := by decide +kernel
theorem d_Se_outcome_1 : decode b_Se_outcome 1 = .ok (.getfield 101, 3) := by decide +kernel
theorem d_Se_outcome_4 : decode b_Se_outcome 4 = .ok (.iload_n 1, 1) := by decide +kernel
theorem d_Se_outcome_5 : decode b_Se_outcome 5 = .ok (.invokestatic 83, 3) := by decide +kernel
theorem d_Se_outcome_8 : decode b_Se_outcome 8 = .ok (.ifCond .eq 5, 3) := by decide +kernel
theorem d_Se_outcome_11 : decode b_Se_outcome 11 = .ok (.iconst 4, 1) := by decide +kernel
theorem d_Se_outcome_12 : decode b_Se_outcome 12 = .ok (.ireturn, 1) := by decide +kernel
theorem d_Se_outcome_13 : decode b_Se_outcome 13 = .ok (.aload_n 0, 1) := by decide +kernel
theorem d_Se_outcome_14 : decode b_Se_outcome 14 = .ok (.getfield 31, 3) := by decide +kernel
theorem d_Se_outcome_17 : decode b_Se_outcome 17 = .ok (.getfield 121, 3) := by decide +kernel
theorem d_Se_outcome_20 : decode b_Se_outcome 20 = .ok (.iload_n 1, 1) := by decide +kernel
theorem d_Se_outcome_21 : decode b_Se_outcome 21 = .ok (.iaload, 1) := by decide +kernel
theorem d_Se_outcome_22 : decode b_Se_outcome 22 = .ok (.iconst 1, 1) := by decide +kernel
theorem d_Se_outcome_23 : decode b_Se_outcome 23 = .ok (.if_icmp .ne 16, 3) := by decide +kernel
theorem d_Se_outcome_26 : decode b_Se_outcome 26 = .ok (.aload_n 0, 1) := by decide +kernel
theorem d_Se_outcome_27 : decode b_Se_outcome 27 = .ok (.getfield 63, 3) := by decide +kernel
theorem d_Se_outcome_30 : decode b_Se_outcome 30 = .ok (.iload_n 1, 1) := by decide +kernel
theorem d_Se_outcome_31 : decode b_Se_outcome 31 = .ok (.invokestatic 83, 3) := by decide +kernel
theorem d_Se_outcome_34 : decode b_Se_outcome 34 = .ok (.ifCond .ne 5, 3) := by decide +kernel
theorem d_Se_outcome_37 : decode b_Se_outcome 37 = .ok (.iconst 2, 1) := by decide +kernel
theorem d_Se_outcome_38 : decode b_Se_outcome 38 = .ok (.ireturn, 1) := by decide +kernel
theorem d_Se_outcome_39 : decode b_Se_outcome 39 = .ok (.aload_n 0, 1) := by decide +kernel
theorem d_Se_outcome_40 : decode b_Se_outcome 40 = .ok (.getfield 31, 3) := by decide +kernel
theorem d_Se_outcome_43 : decode b_Se_outcome 43 = .ok (.getfield 121, 3) := by decide +kernel
theorem d_Se_outcome_46 : decode b_Se_outcome 46 = .ok (.iload_n 1, 1) := by decide +kernel
theorem d_Se_outcome_47 : decode b_Se_outcome 47 = .ok (.iaload, 1) := by decide +kernel
theorem d_Se_outcome_48 : decode b_Se_outcome 48 = .ok (.iconst 2, 1) := by decide +kernel
theorem d_Se_outcome_49 : decode b_Se_outcome 49 = .ok (.if_icmp .ne 16, 3) := by decide +kernel
theorem d_Se_outcome_52 : decode b_Se_outcome 52 = .ok (.aload_n 0, 1) := by decide +kernel
theorem d_Se_outcome_53 : decode b_Se_outcome 53 = .ok (.getfield 63, 3) := by decide +kernel
theorem d_Se_outcome_56 : decode b_Se_outcome 56 = .ok (.iload_n 1, 1) := by decide +kernel
theorem d_Se_outcome_57 : decode b_Se_outcome 57 = .ok (.invokestatic 83, 3) := by decide +kernel
theorem d_Se_outcome_60 : decode b_Se_outcome 60 = .ok (.ifCond .ne 5, 3) := by decide +kernel
theorem d_Se_outcome_63 : decode b_Se_outcome 63 = .ok (.iconst 3, 1) := by decide +kernel
theorem d_Se_outcome_64 : decode b_Se_outcome 64 = .ok (.ireturn, 1) := by decide +kernel
theorem d_Se_outcome_65 : decode b_Se_outcome 65 = .ok (.iconst 1, 1) := by decide +kernel
theorem d_Se_outcome_66 : decode b_Se_outcome 66 = .ok (.ireturn, 1) := by decide +kernel

set_option maxHeartbeats 4000000 in
set_option maxRecDepth 100000 in
theorem c_Se_outcome (l : Launch) (D : va_G) (cI cZ cJ cS : ClassId) (aT : Nat) (ceT : Cell) (h0 qm qs q1 q2 q3 q4 q5 : Nat) (St Mv Sm Ho Su Op Sd Od Sp Oq : Nat → Bool) (tn : Int32) (qu qo qx qy qr qw : Nat) (Oo : Nat → Nat) (a : Nat) (hO4 : ∀ j, Oo j < 4) (h_a : a < 12) : Met l y_Se_outcome w_Se_outcome ({ frames := 1, cells := 0, slots := 0, locals := 21 }) (tP D cI cZ cJ cS aT ceT [.ref h0, .int (nI a)] [(h0, .inr (2, [.ref qm, .ref qs, .int (mI St), .int (mI Mv), .int (mI Sm), .int (mI Ho), .ref q1, .ref q2, .ref q3, .ref q4, .int (mI Su), .int (mI Op), .int (mI Sd), .int (mI Od), .int (mI Sp), .int (mI Oq), .ref q5])), (qs, .inr (3, [.int tn, .ref qu, .ref qo, .ref qx, .ref qy, .ref qr, .ref qw])), (qo, .inl (cI, 12, .inl (fun j => nI (Oo j))))]) (vp_Si (fun r => r = nI (ocC Sd Su Oo a))) 0 0 (fun _ => False) := by
  refine Met.ofW (cc := b_Se_outcome) (maxL := 2) (ret := (some .int)) (by decide) rfl ?_
  intro p e s m args below meth c s₁ B hml hv
  obtain ⟨rfl, hP, hK, hX⟩ := hv
  have hx := B.exec
  have hb := B.bytes
  have hr := B.returns
  have hts0 := atoms_spec (ws := w_Se_outcome) B.pre
  have hts : ∀ w ∈ TB, w.before _ s = true := fun w h => hts0 w (List.mem_cons_of_mem _ h)
  have hown : s.vm.findClass R_Se = some m.cls := findClass_of_methodNamed B.named
  have hlocks := B.notSynchronized
  have hXH : s.heap[aT]? = s.heap[aT]? := rfl
  have hl := lv_entry ([.ref h0, .int (nI a)]) (n := 2) (Nat.le_of_ble_eq_true rfl)
  rw [lg_entry_eq]
  generalize (lg_sl ([.ref h0, .int (nI a)]) ++ List.replicate (2 - (lg_sl ([.ref h0, .int (nI a)])).length) Slot.unset).toArray = ls at hl ⊢
  have hl : lv_has ls 2 [(0, .ref h0), (1, .int (nI a))] := hl
  refine lv_aload_n hx hb d_Se_outcome_0 rfl (lv_at hl 0 rfl) ?_
  refine va_get (D := D) (ci := 2) (v := .int (mI Sd)) (C := R_Se) (T := T_Se) (N := 17) hx hb hts hin_Se hown hK hP 0 rfl rfl 12 (by decide) (hts _ wd_115) (fun _ h9 => h9) rfl d_Se_outcome_1 ?_
  refine lv_iload_n hx hb d_Se_outcome_4 rfl (lv_at hl 1 rfl) ?_
  have hPc := hP.sub (ws' := []) [] rfl
  refine vp_callSi (va_Run.run (va_runSN (As := [.int (mI Sd), .int (nI a)]) (rest := []) ⟨hx, hb, hml, hown, hts⟩ (c_Sw_in l D cI cZ cJ cS aT ceT  Sd a h_a) (⟨va_cnB 2 hts (tb_c wd_285) rfl rfl rfl hX.2.2.2.2.2.2.2.1 (hts _ wd_1) ⟨by decide, by decide, by decide +kernel⟩ ⟨Nat.le_of_ble_eq_true rfl, Nat.le_of_ble_eq_true rfl⟩, hts _ wd_284, trivial⟩) (tP_S hK hX hXH hPc) rfl rfl hl.1 rfl (lv_room (Nat.le_of_ble_eq_true rfl)) d_Se_outcome_5 ⟨Nat.le_of_ble_eq_true rfl, Nat.le_of_ble_eq_true rfl⟩)) (fun r1 hr9 => ?_)
  rw [hr9]
  rcases bI_c (Sd a) with ⟨hb3, e9⟩ | ⟨hb3, e9⟩
  · refine tr_top e9 ?_
    refine lv_if_eq (tgt := 13) hx hb d_Se_outcome_8 (by decide) (fun h0 => absurd h0 (by decide)) (fun _ => ?_)
    refine lv_iconst (v := 4) hx hb d_Se_outcome_11 (by decide) ?_
    exact W.iret (v := 4) hx hb hr (fun t ht hW => ⟨4, rfl, show nI 4 = _ from congrArg nI (by simp [ocC, hb3]), ht⟩) (fun q hq => by cases hq) d_Se_outcome_12
  · refine tr_top e9 ?_
    refine lv_if_eq (tgt := 13) hx hb d_Se_outcome_8 (by decide) (fun _ => ?_) (fun h0 => absurd (by decide) h0)
    refine lv_aload_n hx hb d_Se_outcome_13 rfl (lv_at hl 0 rfl) ?_
    refine va_get (D := D) (ci := 2) (v := .ref qs) (C := R_Se) (T := T_Se) (N := 17) hx hb hts hin_Se hown hK hP 0 rfl rfl 1 (by decide) (hts _ wd_104) (fun _ h9 => h9) rfl d_Se_outcome_14 ?_
    refine va_get (D := D) (ci := 3) (v := .ref qo) (C := R_Sh) (T := T_Sh) (N := 7) hx hb hts hin_Sh hown hK hP 1 rfl rfl 2 (by decide) (hts _ wd_69) (fun _ h9 => h9) rfl d_Se_outcome_17 ?_
    refine lv_iload_n hx hb d_Se_outcome_20 rfl (lv_at hl 1 rfl) ?_
    refine tr_iald (v := nI (Oo a)) hx hb hK hP 2 0 rfl rfl a h_a (by decide) rfl d_Se_outcome_21 ?_
    refine lv_iconst (v := 1) hx hb d_Se_outcome_22 (by decide) ?_
    refine lv_icmp_ne (tgt := 39) hx hb d_Se_outcome_23 (by decide) (fun hc6 => ?_) (fun hc6 => ?_)
    · -- 23 taken
      have hc6 : ¬ Oo a = 1 := fun h9 => hc6 (congrArg nI h9)
      refine lv_aload_n hx hb d_Se_outcome_39 rfl (lv_at hl 0 rfl) ?_
      refine va_get (D := D) (ci := 2) (v := .ref qs) (C := R_Se) (T := T_Se) (N := 17) hx hb hts hin_Se hown hK hP 0 rfl rfl 1 (by decide) (hts _ wd_104) (fun _ h9 => h9) rfl d_Se_outcome_40 ?_
      refine va_get (D := D) (ci := 3) (v := .ref qo) (C := R_Sh) (T := T_Sh) (N := 7) hx hb hts hin_Sh hown hK hP 1 rfl rfl 2 (by decide) (hts _ wd_69) (fun _ h9 => h9) rfl d_Se_outcome_43 ?_
      refine lv_iload_n hx hb d_Se_outcome_46 rfl (lv_at hl 1 rfl) ?_
      refine tr_iald (v := nI (Oo a)) hx hb hK hP 2 0 rfl rfl a h_a (by decide) rfl d_Se_outcome_47 ?_
      refine lv_iconst (v := 2) hx hb d_Se_outcome_48 (by decide) ?_
      refine lv_icmp_ne (tgt := 65) hx hb d_Se_outcome_49 (by decide) (fun hc7 => ?_) (fun hc7 => ?_)
      · -- 49 taken
        have hc7 : ¬ Oo a = 2 := fun h9 => hc7 (congrArg nI h9)
        refine lv_iconst (v := 1) hx hb d_Se_outcome_65 (by decide) ?_
        exact W.iret (v := 1) hx hb hr (fun t ht hW => ⟨1, rfl, show nI 1 = _ from congrArg nI (by simp [ocC, hb3, hc6, hc7]), ht⟩) (fun q hq => by cases hq) d_Se_outcome_66
      · -- 49 not taken
        have hc7 : Oo a = 2 := (nI_lit (Nat.lt_trans (hO4 _) (by decide)) (by decide)).mp hc7
        refine lv_aload_n hx hb d_Se_outcome_52 rfl (lv_at hl 0 rfl) ?_
        refine va_get (D := D) (ci := 2) (v := .int (mI Su)) (C := R_Se) (T := T_Se) (N := 17) hx hb hts hin_Se hown hK hP 0 rfl rfl 10 (by decide) (hts _ wd_113) (fun _ h9 => h9) rfl d_Se_outcome_53 ?_
        refine lv_iload_n hx hb d_Se_outcome_56 rfl (lv_at hl 1 rfl) ?_
        have hPc := hP.sub (ws' := []) [] rfl
        refine vp_callSi (va_Run.run (va_runSN (As := [.int (mI Su), .int (nI a)]) (rest := []) ⟨hx, hb, hml, hown, hts⟩ (c_Sw_in l D cI cZ cJ cS aT ceT  Su a h_a) (⟨va_cnB 2 hts (tb_c wd_285) rfl rfl rfl hX.2.2.2.2.2.2.2.1 (hts _ wd_1) ⟨by decide, by decide, by decide +kernel⟩ ⟨Nat.le_of_ble_eq_true rfl, Nat.le_of_ble_eq_true rfl⟩, hts _ wd_284, trivial⟩) (tP_S hK hX hXH hPc) rfl rfl hl.1 rfl (lv_room (Nat.le_of_ble_eq_true rfl)) d_Se_outcome_57 ⟨Nat.le_of_ble_eq_true rfl, Nat.le_of_ble_eq_true rfl⟩)) (fun r8 hr9 => ?_)
        rw [hr9]
        rcases bI_c (Su a) with ⟨hb10, e9⟩ | ⟨hb10, e9⟩
        · refine tr_top e9 ?_
          refine lv_if_ne (tgt := 65) hx hb d_Se_outcome_60 (by decide) (fun _ => ?_) (fun h0 => absurd h0 (by decide))
          refine lv_iconst (v := 1) hx hb d_Se_outcome_65 (by decide) ?_
          exact W.iret (v := 1) hx hb hr (fun t ht hW => ⟨1, rfl, show nI 1 = _ from congrArg nI (by simp [ocC, hb3, hc6, hc7, hb10]), ht⟩) (fun q hq => by cases hq) d_Se_outcome_66
        · refine tr_top e9 ?_
          refine lv_if_ne (tgt := 65) hx hb d_Se_outcome_60 (by decide) (fun h0 => absurd (by decide) h0) (fun _ => ?_)
          refine lv_iconst (v := 3) hx hb d_Se_outcome_63 (by decide) ?_
          exact W.iret (v := 3) hx hb hr (fun t ht hW => ⟨3, rfl, show nI 3 = _ from congrArg nI (by simp [ocC, hb3, hc6, hc7, hb10]), ht⟩) (fun q hq => by cases hq) d_Se_outcome_64
    · -- 23 not taken
      have hc6 : Oo a = 1 := (nI_lit (Nat.lt_trans (hO4 _) (by decide)) (by decide)).mp hc6
      refine lv_aload_n hx hb d_Se_outcome_26 rfl (lv_at hl 0 rfl) ?_
      refine va_get (D := D) (ci := 2) (v := .int (mI Su)) (C := R_Se) (T := T_Se) (N := 17) hx hb hts hin_Se hown hK hP 0 rfl rfl 10 (by decide) (hts _ wd_113) (fun _ h9 => h9) rfl d_Se_outcome_27 ?_
      refine lv_iload_n hx hb d_Se_outcome_30 rfl (lv_at hl 1 rfl) ?_
      have hPc := hP.sub (ws' := []) [] rfl
      refine vp_callSi (va_Run.run (va_runSN (As := [.int (mI Su), .int (nI a)]) (rest := []) ⟨hx, hb, hml, hown, hts⟩ (c_Sw_in l D cI cZ cJ cS aT ceT  Su a h_a) (⟨va_cnB 2 hts (tb_c wd_285) rfl rfl rfl hX.2.2.2.2.2.2.2.1 (hts _ wd_1) ⟨by decide, by decide, by decide +kernel⟩ ⟨Nat.le_of_ble_eq_true rfl, Nat.le_of_ble_eq_true rfl⟩, hts _ wd_284, trivial⟩) (tP_S hK hX hXH hPc) rfl rfl hl.1 rfl (lv_room (Nat.le_of_ble_eq_true rfl)) d_Se_outcome_31 ⟨Nat.le_of_ble_eq_true rfl, Nat.le_of_ble_eq_true rfl⟩)) (fun r13 hr9 => ?_)
      rw [hr9]
      rcases bI_c (Su a) with ⟨hb15, e9⟩ | ⟨hb15, e9⟩
      · refine tr_top e9 ?_
        refine lv_if_ne (tgt := 39) hx hb d_Se_outcome_34 (by decide) (fun _ => ?_) (fun h0 => absurd h0 (by decide))
        refine lv_aload_n hx hb d_Se_outcome_39 rfl (lv_at hl 0 rfl) ?_
        refine va_get (D := D) (ci := 2) (v := .ref qs) (C := R_Se) (T := T_Se) (N := 17) hx hb hts hin_Se hown hK hP 0 rfl rfl 1 (by decide) (hts _ wd_104) (fun _ h9 => h9) rfl d_Se_outcome_40 ?_
        refine va_get (D := D) (ci := 3) (v := .ref qo) (C := R_Sh) (T := T_Sh) (N := 7) hx hb hts hin_Sh hown hK hP 1 rfl rfl 2 (by decide) (hts _ wd_69) (fun _ h9 => h9) rfl d_Se_outcome_43 ?_
        refine lv_iload_n hx hb d_Se_outcome_46 rfl (lv_at hl 1 rfl) ?_
        refine tr_iald (v := nI (Oo a)) hx hb hK hP 2 0 rfl rfl a h_a (by decide) rfl d_Se_outcome_47 ?_
        refine lv_iconst (v := 2) hx hb d_Se_outcome_48 (by decide) ?_
        refine lv_icmp_ne (tgt := 65) hx hb d_Se_outcome_49 (by decide) (fun _ => ?_) (fun h0 => absurd ((nI_lit (Nat.lt_trans (hO4 _) (by decide)) (by decide)).mp h0) (fun h8 => absurd (hc6.symm.trans h8) (by decide)))
        refine lv_iconst (v := 1) hx hb d_Se_outcome_65 (by decide) ?_
        exact W.iret (v := 1) hx hb hr (fun t ht hW => ⟨1, rfl, show nI 1 = _ from congrArg nI (by simp [ocC, hb3, hc6, hb15]), ht⟩) (fun q hq => by cases hq) d_Se_outcome_66
      · refine tr_top e9 ?_
        refine lv_if_ne (tgt := 39) hx hb d_Se_outcome_34 (by decide) (fun h0 => absurd (by decide) h0) (fun _ => ?_)
        refine lv_iconst (v := 2) hx hb d_Se_outcome_37 (by decide) ?_
        exact W.iret (v := 2) hx hb hr (fun t ht hW => ⟨2, rfl, show nI 2 = _ from congrArg nI (by simp [ocC, hb3, hc6, hb15]), ht⟩) (fun q hq => by cases hq) d_Se_outcome_38

theorem d_Se_writeOutcomes_0 : decode b_Se_writeOutcomes 0 = .ok (.iconst 0, 1) := by decide +kernel
theorem d_Se_writeOutcomes_1 : decode b_Se_writeOutcomes 1 = .ok (.istore_n 1, 1) := by decide +kernel
theorem d_Se_writeOutcomes_2 : decode b_Se_writeOutcomes 2 = .ok (.iload_n 1, 1) := by decide +kernel
theorem d_Se_writeOutcomes_3 : decode b_Se_writeOutcomes 3 = .ok (.bipush 12, 2) := by decide +kernel
theorem d_Se_writeOutcomes_5 : decode b_Se_writeOutcomes 5 = .ok (.if_icmp .ge 38, 3) := by decide +kernel
theorem d_Se_writeOutcomes_8 : decode b_Se_writeOutcomes 8 = .ok (.aload_n 0, 1) := by decide +kernel
theorem d_Se_writeOutcomes_9 : decode b_Se_writeOutcomes 9 = .ok (.getfield 31, 3) := by decide +kernel
theorem d_Se_writeOutcomes_12 : decode b_Se_writeOutcomes 12 = .ok (.getfield 75, 3) := by decide +kernel
theorem d_Se_writeOutcomes_15 : decode b_Se_writeOutcomes 15 = .ok (.iload_n 1, 1) := by decide +kernel
theorem d_Se_writeOutcomes_16 : decode b_Se_writeOutcomes 16 = .ok (.aload_n 0, 1) := by decide +kernel
theorem d_Se_writeOutcomes_17 : decode b_Se_writeOutcomes 17 = .ok (.getfield 80, 3) := by decide +kernel
theorem d_Se_writeOutcomes_20 : decode b_Se_writeOutcomes 20 = .ok (.iload_n 1, 1) := by decide +kernel
theorem d_Se_writeOutcomes_21 : decode b_Se_writeOutcomes 21 = .ok (.invokestatic 83, 3) := by decide +kernel
theorem d_Se_writeOutcomes_24 : decode b_Se_writeOutcomes 24 = .ok (.ifCond .eq 11, 3) := by decide +kernel
theorem d_Se_writeOutcomes_27 : decode b_Se_writeOutcomes 27 = .ok (.aload_n 0, 1) := by decide +kernel
theorem d_Se_writeOutcomes_28 : decode b_Se_writeOutcomes 28 = .ok (.iload_n 1, 1) := by decide +kernel
theorem d_Se_writeOutcomes_29 : decode b_Se_writeOutcomes 29 = .ok (.invokevirtual 87, 3) := by decide +kernel
theorem d_Se_writeOutcomes_32 : decode b_Se_writeOutcomes 32 = .ok (.goto 4, 3) := by decide +kernel
theorem d_Se_writeOutcomes_35 : decode b_Se_writeOutcomes 35 = .ok (.iconst 0, 1) := by decide +kernel
theorem d_Se_writeOutcomes_36 : decode b_Se_writeOutcomes 36 = .ok (.iastore, 1) := by decide +kernel
theorem d_Se_writeOutcomes_37 : decode b_Se_writeOutcomes 37 = .ok (.iinc 1 1, 3) := by decide +kernel
theorem d_Se_writeOutcomes_40 : decode b_Se_writeOutcomes 40 = .ok (.goto (-38), 3) := by decide +kernel
theorem d_Se_writeOutcomes_43 : decode b_Se_writeOutcomes 43 = .ok (.return_, 1) := by decide +kernel
theorem wd_78 : (Cond.fieldLink "SheetWar$Settling" (75 : Nat) "SheetWar$Sheet" "outcomes" "[I") ∈ TB := tb_t 78 (by decide +kernel) (by decide +kernel)
theorem wd_611 : (Cond.code ({ cls := "SheetWar$Settling", name := "outcome", desc := "(I)I" } : MethodName) prog_4_method_6_code (2 : Nat) (Option.some FieldType.int)) ∈ TB := tb_t 611 (by decide +kernel) (by decide +kernel)
theorem wd_608 : (Cond.methodLink "SheetWar$Settling" (87 : Nat) ({ cls := "SheetWar$Settling", name := "outcome", desc := "(I)I" } : MethodName)) ∈ TB := tb_t 608 (by decide +kernel) (by decide +kernel)
theorem wd_610 : (Cond.instanceMethod ({ cls := "SheetWar$Settling", name := "outcome", desc := "(I)I" } : MethodName)) ∈ TB := tb_t 610 (by decide +kernel) (by decide +kernel)
theorem wp_25 : Cond.selects "SheetWar$Settling" ⟨"SheetWar$Settling", "outcome", "(I)I"⟩ ⟨"SheetWar$Settling", "outcome", "(I)I"⟩ ∈ TB := tb_p 25 (by decide +kernel) (by decide +kernel)
set_option maxHeartbeats 4000000 in
set_option maxRecDepth 100000 in
theorem c_Se_writeOutcomes (l : Launch) (D : va_G) (cI cZ cJ cS : ClassId) (aT : Nat) (ceT : Cell) (sz : Nat) (h0 qm qs q1 q2 q3 q4 q5 : Nat) (St Mv Sm Ho Su Op Sd Od Sp Oq : Nat → Bool) (tn : Int32) (qu qo qx qy qr qw : Nat) (Oo Rs : Nat → Nat) (hO4 : ∀ j, Oo j < 4) : Met l y_Se_writeOutcomes w_Se_writeOutcomes ({ frames := 2, cells := 0, slots := 0, locals := 42 }) (tH D cI cZ cJ cS aT ceT [.ref h0] sz [(h0, .inr (2, [.ref qm, .ref qs, .int (mI St), .int (mI Mv), .int (mI Sm), .int (mI Ho), .ref q1, .ref q2, .ref q3, .ref q4, .int (mI Su), .int (mI Op), .int (mI Sd), .int (mI Od), .int (mI Sp), .int (mI Oq), .ref q5])), (qs, .inr (3, [.int tn, .ref qu, .ref qo, .ref qx, .ref qy, .ref qr, .ref qw])), (qo, .inl (cI, 12, .inl (fun j => nI (Oo j)))), (qr, .inl (cI, 12, .inl (fun j => nI (Rs j))))]) (va_Qv (fun _ : Unit => True) (fun _ t => tB D (va_A [(h0, .inr (2, [.ref qm, .ref qs, .int (mI St), .int (mI Mv), .int (mI Sm), .int (mI Ho), .ref q1, .ref q2, .ref q3, .ref q4, .int (mI Su), .int (mI Op), .int (mI Sd), .int (mI Od), .int (mI Sp), .int (mI Oq), .ref q5])), (qs, .inr (3, [.int tn, .ref qu, .ref qo, .ref qx, .ref qy, .ref qr, .ref qw])), (qo, .inl (cI, 12, .inl (fun j => nI (Oo j)))), (qr, .inl (cI, 12, .inl (fun j => nI (Rs j))))] sz) [(h0, .inr (2, [.ref qm, .ref qs, .int (mI St), .int (mI Mv), .int (mI Sm), .int (mI Ho), .ref q1, .ref q2, .ref q3, .ref q4, .int (mI Su), .int (mI Op), .int (mI Sd), .int (mI Od), .int (mI Sp), .int (mI Oq), .ref q5])), (qs, .inr (3, [.int tn, .ref qu, .ref qo, .ref qx, .ref qy, .ref qr, .ref qw])), (qo, .inl (cI, 12, .inl (fun j => nI (Oo j)))), (qr, .inl (cI, 12, .inl (fun j => nI (mxN (ocF St Sd Su Oo) Rs 12 j))))] t) (va_A [(h0, .inr (2, [.ref qm, .ref qs, .int (mI St), .int (mI Mv), .int (mI Sm), .int (mI Ho), .ref q1, .ref q2, .ref q3, .ref q4, .int (mI Su), .int (mI Op), .int (mI Sd), .int (mI Od), .int (mI Sp), .int (mI Oq), .ref q5])), (qs, .inr (3, [.int tn, .ref qu, .ref qo, .ref qx, .ref qy, .ref qr, .ref qw])), (qo, .inl (cI, 12, .inl (fun j => nI (Oo j)))), (qr, .inl (cI, 12, .inl (fun j => nI (Rs j))))] sz)) 0 0 (va_A [(h0, .inr (2, [.ref qm, .ref qs, .int (mI St), .int (mI Mv), .int (mI Sm), .int (mI Ho), .ref q1, .ref q2, .ref q3, .ref q4, .int (mI Su), .int (mI Op), .int (mI Sd), .int (mI Od), .int (mI Sp), .int (mI Oq), .ref q5])), (qs, .inr (3, [.int tn, .ref qu, .ref qo, .ref qx, .ref qy, .ref qr, .ref qw])), (qo, .inl (cI, 12, .inl (fun j => nI (Oo j)))), (qr, .inl (cI, 12, .inl (fun j => nI (Rs j))))] sz) := by
  refine Met.ofW (cc := b_Se_writeOutcomes) (maxL := 2) (ret := none) (by decide) rfl ?_
  intro p e s m args below meth c s₁ B hml hv
  obtain ⟨rfl, hsz, hP, hK, hD0, hX⟩ := hv
  have hx := B.exec
  have hb := B.bytes
  have hr := B.returns
  have hts0 := atoms_spec (ws := w_Se_writeOutcomes) B.pre
  have hts : ∀ w ∈ TB, w.before _ s = true := fun w h => hts0 w (List.mem_cons_of_mem _ h)
  have hown : s.vm.findClass R_Se = some m.cls := findClass_of_methodNamed B.named
  have hlocks := B.notSynchronized
  subst hsz
  have hXl := tx_lt hX
  have hXn := tx_far hP hX
  have hD := hD0.self (sz := s.heap.size)
  generalize hAe : va_A [(h0, .inr (2, [.ref qm, .ref qs, .int (mI St), .int (mI Mv), .int (mI Sm), .int (mI Ho), .ref q1, .ref q2, .ref q3, .ref q4, .int (mI Su), .int (mI Op), .int (mI Sd), .int (mI Od), .int (mI Sp), .int (mI Oq), .ref q5])), (qs, .inr (3, [.int tn, .ref qu, .ref qo, .ref qx, .ref qy, .ref qr, .ref qw])), (qo, .inl (cI, 12, .inl (fun j => nI (Oo j)))), (qr, .inl (cI, 12, .inl (fun j => nI (Rs j))))] s.heap.size = A at hD hXn ⊢
  have hA : ∀ q : Nat, s.heap.size ≤ q → A q := fun q h => by rw [← hAe]; exact Or.inr h
  have hS : va_S A s.heap s.heap [] := va_S.rf
  have hXH : s.heap[aT]? = s.heap[aT]? := rfl
  have hl := lv_entry ([.ref h0]) (n := 2) (Nat.le_of_ble_eq_true rfl)
  rw [lg_entry_eq]
  generalize (lg_sl ([.ref h0]) ++ List.replicate (2 - (lg_sl ([.ref h0])).length) Slot.unset).toArray = ls at hl ⊢
  have hl : lv_has ls 2 [(0, .ref h0)] := hl
  refine lv_iconst (v := 0) hx hb d_Se_writeOutcomes_0 (by decide) ?_
  refine lv_istore_n (lv' := [(1, .int 0), (0, .ref h0)]) hx hb d_Se_writeOutcomes_1 rfl hl (by decide) rfl (fun ls hl => ?_)
  have loop : ∀ (k i : Nat) (ls : Array Slot) (H : Heap) (locs : List Loc), i + k = 12 → lv_has ls 2 [(1, .int (nI i)), (0, .ref h0)] → va_P D vwCl [(h0, .inr (2, [.ref qm, .ref qs, .int (mI St), .int (mI Mv), .int (mI Sm), .int (mI Ho), .ref q1, .ref q2, .ref q3, .ref q4, .int (mI Su), .int (mI Op), .int (mI Sd), .int (mI Od), .int (mI Sp), .int (mI Oq), .ref q5])), (qs, .inr (3, [.int tn, .ref qu, .ref qo, .ref qx, .ref qy, .ref qr, .ref qw])), (qo, .inl (cI, 12, .inl (fun j => nI (Oo j)))), (qr, .inl (cI, 12, .inl (fun j => nI (mxN (ocF St Sd Su Oo) Rs i j))))] H → va_D A [(h0, .inr (2, [.ref qm, .ref qs, .int (mI St), .int (mI Mv), .int (mI Sm), .int (mI Ho), .ref q1, .ref q2, .ref q3, .ref q4, .int (mI Su), .int (mI Op), .int (mI Sd), .int (mI Od), .int (mI Sp), .int (mI Oq), .ref q5])), (qs, .inr (3, [.int tn, .ref qu, .ref qo, .ref qx, .ref qy, .ref qr, .ref qw])), (qo, .inl (cI, 12, .inl (fun j => nI (Oo j)))), (qr, .inl (cI, 12, .inl (fun j => nI (mxN (ocF St Sd Su Oo) Rs i j))))] → va_S A s.heap H locs → W p l e (headSpec w_Se_writeOutcomes ({ frames := 2, cells := 0, slots := 0, locals := 42 })).room s m ([.ref h0]).toArray below meth c H locs 0 0 (MQ below (va_Qv (fun _ : Unit => True) (fun _ t => tB D A [(h0, .inr (2, [.ref qm, .ref qs, .int (mI St), .int (mI Mv), .int (mI Sm), .int (mI Ho), .ref q1, .ref q2, .ref q3, .ref q4, .int (mI Su), .int (mI Op), .int (mI Sd), .int (mI Od), .int (mI Sp), .int (mI Oq), .ref q5])), (qs, .inr (3, [.int tn, .ref qu, .ref qo, .ref qx, .ref qy, .ref qr, .ref qw])), (qo, .inl (cI, 12, .inl (fun j => nI (Oo j)))), (qr, .inl (cI, 12, .inl (fun j => nI (mxN (ocF St Sd Su Oo) Rs 12 j))))] t) A) ([.ref h0]).toArray s 0 0 A) (F0 m 2 ls []) := by
    intro k
    induction k with
    | zero =>
      intro i ls H locs hi hl hP hD hS
      have hie : i = 12 := by omega
      rw [hie] at hl hP hD
      refine lv_iload_n hx hb d_Se_writeOutcomes_2 rfl (lv_at hl 0 rfl) ?_
      refine lv_bipush (v := 12) hx hb d_Se_writeOutcomes_3 (by decide) ?_
      refine lv_icmp_ge (tgt := 43) hx hb d_Se_writeOutcomes_5 (by decide) (fun _ => ?_) (fun h0 => absurd (by decide) h0)
      have hP9 := hP.sub (ws' := [(h0, .inr (2, [.ref qm, .ref qs, .int (mI St), .int (mI Mv), .int (mI Sm), .int (mI Ho), .ref q1, .ref q2, .ref q3, .ref q4, .int (mI Su), .int (mI Op), .int (mI Sd), .int (mI Od), .int (mI Sp), .int (mI Oq), .ref q5])), (qs, .inr (3, [.int tn, .ref qu, .ref qo, .ref qx, .ref qy, .ref qr, .ref qw])), (qo, .inl (cI, 12, .inl (fun j => nI (Oo j)))), (qr, .inl (cI, 12, .inl (fun j => nI (mxN (ocF St Sd Su Oo) Rs 12 j))))]) [0, 1, 2, 3] rfl
      have hD9 := hD.sub (ws' := [(h0, .inr (2, [.ref qm, .ref qs, .int (mI St), .int (mI Mv), .int (mI Sm), .int (mI Ho), .ref q1, .ref q2, .ref q3, .ref q4, .int (mI Su), .int (mI Op), .int (mI Sd), .int (mI Od), .int (mI Sp), .int (mI Oq), .ref q5])), (qs, .inr (3, [.int tn, .ref qu, .ref qo, .ref qx, .ref qy, .ref qr, .ref qw])), (qo, .inl (cI, 12, .inl (fun j => nI (Oo j)))), (qr, .inl (cI, 12, .inl (fun j => nI (mxN (ocF St Sd Su Oo) Rs 12 j))))]) [0, 1, 2, 3] (by decide) rfl
      exact W.vret hx hb hr (fun t ht hW => ⟨⟨(), rfl, trivial, by rw [ht]; exact hP9, hD9⟩, hS.F ht⟩) hS.2.2 d_Se_writeOutcomes_43
    | succ k ih =>
      intro i ls H locs hi hl hP hD hS
      have hlt : i < 12 := by omega
      have hlt12 : i < 12 := by omega
      refine lv_iload_n hx hb d_Se_writeOutcomes_2 rfl (lv_at hl 0 rfl) ?_
      refine lv_bipush (v := 12) hx hb d_Se_writeOutcomes_3 (by decide) ?_
      refine lv_icmp_ge (tgt := 43) hx hb d_Se_writeOutcomes_5 (by decide) (fun h0 => absurd h0 (nI_ge hlt (by decide))) (fun _ => ?_)
      refine lv_aload_n hx hb d_Se_writeOutcomes_8 rfl (lv_at hl 1 rfl) ?_
      refine va_get (D := D) (ci := 2) (v := .ref qs) (C := R_Se) (T := T_Se) (N := 17) hx hb hts hin_Se hown hK hP 0 rfl rfl 1 (by decide) (hts _ wd_104) (fun _ h9 => h9) rfl d_Se_writeOutcomes_9 ?_
      refine va_get (D := D) (ci := 3) (v := .ref qr) (C := R_Sh) (T := T_Sh) (N := 7) hx hb hts hin_Sh hown hK hP 1 rfl rfl 5 (by decide) (hts _ wd_78) (fun _ h9 => h9) rfl d_Se_writeOutcomes_12 ?_
      refine lv_iload_n hx hb d_Se_writeOutcomes_15 rfl (lv_at hl 0 rfl) ?_
      refine lv_aload_n hx hb d_Se_writeOutcomes_16 rfl (lv_at hl 1 rfl) ?_
      refine va_get (D := D) (ci := 2) (v := .int (mI St)) (C := R_Se) (T := T_Se) (N := 17) hx hb hts hin_Se hown hK hP 0 rfl rfl 2 (by decide) (hts _ wd_105) (fun _ h9 => h9) rfl d_Se_writeOutcomes_17 ?_
      refine lv_iload_n hx hb d_Se_writeOutcomes_20 rfl (lv_at hl 0 rfl) ?_
      have hPc := hP.sub (ws' := []) [] rfl
      refine vp_callSi (va_Run.run (va_runSN (As := [.int (mI St), .int (nI i)]) (rest := [.int (nI i), .ref qr]) ⟨hx, hb, hml, hown, hts⟩ (c_Sw_in l D cI cZ cJ cS aT ceT  St i hlt12) (⟨va_cnB 2 hts (tb_c wd_285) rfl rfl rfl hX.2.2.2.2.2.2.2.1 (hts _ wd_1) ⟨by decide, by decide, by decide +kernel⟩ ⟨Nat.le_of_ble_eq_true rfl, Nat.le_of_ble_eq_true rfl⟩, hts _ wd_284, trivial⟩) (tP_S hK hX (hS.2.1 aT hXl hXn) hPc) rfl rfl hl.1 rfl (lv_room (Nat.le_of_ble_eq_true rfl)) d_Se_writeOutcomes_21 ⟨Nat.le_of_ble_eq_true rfl, Nat.le_of_ble_eq_true rfl⟩)) (fun r3 hr9 => ?_)
      rw [hr9]
      rcases bI_c (St i) with ⟨hb5, e9⟩ | ⟨hb5, e9⟩
      · refine tr_top e9 ?_
        refine lv_if_eq (tgt := 35) hx hb d_Se_writeOutcomes_24 (by decide) (fun h0 => absurd h0 (by decide)) (fun _ => ?_)
        refine lv_aload_n hx hb d_Se_writeOutcomes_27 rfl (lv_at hl 1 rfl) ?_
        refine lv_iload_n hx hb d_Se_writeOutcomes_28 rfl (lv_at hl 0 rfl) ?_
        have hPc := hP.sub (ws' := [(h0, .inr (2, [.ref qm, .ref qs, .int (mI St), .int (mI Mv), .int (mI Sm), .int (mI Ho), .ref q1, .ref q2, .ref q3, .ref q4, .int (mI Su), .int (mI Op), .int (mI Sd), .int (mI Od), .int (mI Sp), .int (mI Oq), .ref q5])), (qs, .inr (3, [.int tn, .ref qu, .ref qo, .ref qx, .ref qy, .ref qr, .ref qw])), (qo, .inl (cI, 12, .inl (fun j => nI (Oo j))))]) [0, 1, 2] rfl
        refine vp_callSi (va_Run.run (va_runV (As := [.int (nI i)]) (rest := [.int (nI i), .ref qr]) ⟨hx, hb, hml, hown, hts⟩ (c_Se_outcome l D cI cZ cJ cS aT ceT  h0 qm qs q1 q2 q3 q4 q5 St Mv Sm Ho Su Op Sd Od Sp Oq tn qu qo qx qy qr qw Oo i hO4 hlt12) (cwV 1 hts (tb_4 wd_608 wd_610 wp_25 wd_5 (tb_c wd_611)) rfl rfl rfl ⟨rfl, by decide, by decide, by decide +kernel⟩ ⟨Nat.le_of_ble_eq_true rfl, Nat.le_of_ble_eq_true rfl⟩) (tP_V hK hX (hS.2.1 aT hXl hXn) hPc (q := 0) rfl rfl) rfl rfl hl.1 rfl (lv_room (Nat.le_of_ble_eq_true rfl)) d_Se_writeOutcomes_29 ⟨Nat.le_of_ble_eq_true rfl, Nat.le_of_ble_eq_true rfl⟩)) (fun r7 hr9 => ?_)
        rw [hr9]
        refine lv_goto (tgt := 36) hx hb d_Se_writeOutcomes_32 (by decide) ?_
        refine tr_iast (g := fun j => nI (upN (fun j => mxN (ocF St Sd Su Oo) Rs i j) i (ocC Sd Su Oo i) j)) hx hb hK hP hD hS 3 0 rfl rfl i hlt12 (by decide) (upN_I (fun j => mxN (ocF St Sd Su Oo) Rs i j) i (ocC Sd Su Oo i)) d_Se_writeOutcomes_36 (fun H locs hP hD hS => ?_)
        have hP : va_P D vwCl [(h0, .inr (2, [.ref qm, .ref qs, .int (mI St), .int (mI Mv), .int (mI Sm), .int (mI Ho), .ref q1, .ref q2, .ref q3, .ref q4, .int (mI Su), .int (mI Op), .int (mI Sd), .int (mI Od), .int (mI Sp), .int (mI Oq), .ref q5])), (qs, .inr (3, [.int tn, .ref qu, .ref qo, .ref qx, .ref qy, .ref qr, .ref qw])), (qo, .inl (cI, 12, .inl (fun j => nI (Oo j)))), (qr, .inl (cI, 12, .inl (fun j => nI (upN (fun j => mxN (ocF St Sd Su Oo) Rs i j) i (ocC Sd Su Oo i) j))))] H := hP
        have hD : va_D A [(h0, .inr (2, [.ref qm, .ref qs, .int (mI St), .int (mI Mv), .int (mI Sm), .int (mI Ho), .ref q1, .ref q2, .ref q3, .ref q4, .int (mI Su), .int (mI Op), .int (mI Sd), .int (mI Od), .int (mI Sp), .int (mI Oq), .ref q5])), (qs, .inr (3, [.int tn, .ref qu, .ref qo, .ref qx, .ref qy, .ref qr, .ref qw])), (qo, .inl (cI, 12, .inl (fun j => nI (Oo j)))), (qr, .inl (cI, 12, .inl (fun j => nI (upN (fun j => mxN (ocF St Sd Su Oo) Rs i j) i (ocC Sd Su Oo i) j))))] := hD
        refine lv_iinc (lv' := [(1, .int ((nI i) + 1)), (0, .ref h0)]) hx hb d_Se_writeOutcomes_37 hl (k := 0) rfl rfl (by decide) rfl (fun ls hl => ?_)
        refine lv_goto (tgt := 2) hx hb d_Se_writeOutcomes_40 (by decide) ?_
        have e8 : (nI i) + 1 = nI (i + 1) := nI_1 i
        have eo9 : (fun j => nI (upN (fun j => mxN (ocF St Sd Su Oo) Rs i j) i (ocC Sd Su Oo i) j)) = (fun j => nI (mxN (ocF St Sd Su Oo) Rs (i + 1) j)) := mxN_s (show _ = (ocF St Sd Su Oo) i by simp [ocF, hb5])
        exact ih (i + 1) ls H locs (by omega) (by rw [← e8]; exact lv_sub hl [0, 1] rfl) (by rw [← eo9]; exact hP) (by rw [← eo9]; exact hD) hS
      · refine tr_top e9 ?_
        refine lv_if_eq (tgt := 35) hx hb d_Se_writeOutcomes_24 (by decide) (fun _ => ?_) (fun h0 => absurd (by decide) h0)
        refine lv_iconst (v := 0) hx hb d_Se_writeOutcomes_35 (by decide) ?_
        refine tr_iast (g := fun j => nI (upN (fun j => mxN (ocF St Sd Su Oo) Rs i j) i 0 j)) hx hb hK hP hD hS 3 0 rfl rfl i hlt12 (by decide) (upN_I (fun j => mxN (ocF St Sd Su Oo) Rs i j) i 0) d_Se_writeOutcomes_36 (fun H locs hP hD hS => ?_)
        have hP : va_P D vwCl [(h0, .inr (2, [.ref qm, .ref qs, .int (mI St), .int (mI Mv), .int (mI Sm), .int (mI Ho), .ref q1, .ref q2, .ref q3, .ref q4, .int (mI Su), .int (mI Op), .int (mI Sd), .int (mI Od), .int (mI Sp), .int (mI Oq), .ref q5])), (qs, .inr (3, [.int tn, .ref qu, .ref qo, .ref qx, .ref qy, .ref qr, .ref qw])), (qo, .inl (cI, 12, .inl (fun j => nI (Oo j)))), (qr, .inl (cI, 12, .inl (fun j => nI (upN (fun j => mxN (ocF St Sd Su Oo) Rs i j) i 0 j))))] H := hP
        have hD : va_D A [(h0, .inr (2, [.ref qm, .ref qs, .int (mI St), .int (mI Mv), .int (mI Sm), .int (mI Ho), .ref q1, .ref q2, .ref q3, .ref q4, .int (mI Su), .int (mI Op), .int (mI Sd), .int (mI Od), .int (mI Sp), .int (mI Oq), .ref q5])), (qs, .inr (3, [.int tn, .ref qu, .ref qo, .ref qx, .ref qy, .ref qr, .ref qw])), (qo, .inl (cI, 12, .inl (fun j => nI (Oo j)))), (qr, .inl (cI, 12, .inl (fun j => nI (upN (fun j => mxN (ocF St Sd Su Oo) Rs i j) i 0 j))))] := hD
        refine lv_iinc (lv' := [(1, .int ((nI i) + 1)), (0, .ref h0)]) hx hb d_Se_writeOutcomes_37 hl (k := 0) rfl rfl (by decide) rfl (fun ls hl => ?_)
        refine lv_goto (tgt := 2) hx hb d_Se_writeOutcomes_40 (by decide) ?_
        have e11 : (nI i) + 1 = nI (i + 1) := nI_1 i
        have eo12 : (fun j => nI (upN (fun j => mxN (ocF St Sd Su Oo) Rs i j) i 0 j)) = (fun j => nI (mxN (ocF St Sd Su Oo) Rs (i + 1) j)) := mxN_s (show _ = (ocF St Sd Su Oo) i by simp [ocF, hb5])
        exact ih (i + 1) ls H locs (by omega) (by rw [← e11]; exact lv_sub hl [0, 1] rfl) (by rw [← eo12]; exact hP) (by rw [← eo12]; exact hD) hS
  have ei13 : (fun j => nI (mxN (ocF St Sd Su Oo) Rs 0 j)) = (fun j => nI (Rs j)) := by funext j; simp [mxN]
  exact loop 12 0 ls _ _ (Nat.zero_add _) hl (by rw [ei13]; exact hP) (by rw [ei13]; exact hD) hS

theorem d_Se_successes_0 : decode b_Se_successes 0 = .ok (.aload_n 0, 1) := by decide +kernel
theorem d_Se_successes_1 : decode b_Se_successes 1 = .ok (.getfield 63, 3) := by decide +kernel
theorem d_Se_successes_4 : decode b_Se_successes 4 = .ok (.aload_n 0, 1) := by decide +kernel
theorem d_Se_successes_5 : decode b_Se_successes 5 = .ok (.getfield 66, 3) := by decide +kernel
theorem d_Se_successes_8 : decode b_Se_successes 8 = .ok (.iand, 1) := by decide +kernel
theorem d_Se_successes_9 : decode b_Se_successes 9 = .ok (.invokestatic 69, 3) := by decide +kernel
theorem d_Se_successes_12 : decode b_Se_successes 12 = .ok (.ireturn, 1) := by decide +kernel

set_option maxHeartbeats 4000000 in
set_option maxRecDepth 100000 in
theorem c_Se_successes (l : Launch) (D : va_G) (cI cZ cJ cS : ClassId) (aT : Nat) (ceT : Cell) (h0 qm qs q1 q2 q3 q4 q5 : Nat) (St Mv Sm Ho Su Op Sd Od Sp Oq : Nat → Bool)   : Met l y_Se_successes w_Se_successes ({ frames := 1, cells := 0, slots := 0, locals := 20 }) (tP D cI cZ cJ cS aT ceT [.ref h0] [(h0, .inr (2, [.ref qm, .ref qs, .int (mI St), .int (mI Mv), .int (mI Sm), .int (mI Ho), .ref q1, .ref q2, .ref q3, .ref q4, .int (mI Su), .int (mI Op), .int (mI Sd), .int (mI Od), .int (mI Sp), .int (mI Oq), .ref q5]))]) (vp_Si (fun r => r = nI (numB (fun j => Su j && Mv j) 12))) 0 0 (fun _ => False) := by
  refine Met.ofW (cc := b_Se_successes) (maxL := 1) (ret := (some .int)) (by decide) rfl ?_
  intro p e s m args below meth c s₁ B hml hv
  obtain ⟨rfl, hP, hK, hX⟩ := hv
  have hx := B.exec
  have hb := B.bytes
  have hr := B.returns
  have hts0 := atoms_spec (ws := w_Se_successes) B.pre
  have hts : ∀ w ∈ TB, w.before _ s = true := fun w h => hts0 w (List.mem_cons_of_mem _ h)
  have hown : s.vm.findClass R_Se = some m.cls := findClass_of_methodNamed B.named
  have hlocks := B.notSynchronized
  have hXH : s.heap[aT]? = s.heap[aT]? := rfl
  have hl := lv_entry ([.ref h0]) (n := 1) (Nat.le_of_ble_eq_true rfl)
  rw [lg_entry_eq]
  generalize (lg_sl ([.ref h0]) ++ List.replicate (1 - (lg_sl ([.ref h0])).length) Slot.unset).toArray = ls at hl ⊢
  have hl : lv_has ls 1 [(0, .ref h0)] := hl
  refine lv_aload_n hx hb d_Se_successes_0 rfl (lv_at hl 0 rfl) ?_
  refine va_get (D := D) (ci := 2) (v := .int (mI Su)) (C := R_Se) (T := T_Se) (N := 17) hx hb hts hin_Se hown hK hP 0 rfl rfl 10 (by decide) (hts _ wd_113) (fun _ h9 => h9) rfl d_Se_successes_1 ?_
  refine lv_aload_n hx hb d_Se_successes_4 rfl (lv_at hl 0 rfl) ?_
  refine va_get (D := D) (ci := 2) (v := .int (mI Mv)) (C := R_Se) (T := T_Se) (N := 17) hx hb hts hin_Se hown hK hP 0 rfl rfl 3 (by decide) (hts _ wd_106) (fun _ h9 => h9) rfl d_Se_successes_5 ?_
  refine lv_iand hx hb d_Se_successes_8 ?_
  refine tr_top (y := mI (fun j => Su j && Mv j)) (mI_and _ _) ?_
  have hPc := hP.sub (ws' := []) [] rfl
  refine vp_callSi (va_Run.run (va_runS (As := [.int (mI (fun j => Su j && Mv j))]) (rest := []) ⟨hx, hb, hml, hown, hts⟩ (c_In_bitCount l D cI cZ cJ cS aT ceT  (fun j => Su j && Mv j) ) (va_cwS 1 hts (tb_3 wd_556 wd_557 wd_16 (tb_c wd_558)) rfl rfl rfl ⟨by decide, by decide, by decide +kernel⟩ ⟨Nat.le_of_ble_eq_true rfl, Nat.le_of_ble_eq_true rfl⟩) (tP_S hK hX hXH hPc) rfl rfl hl.1 rfl (lv_room (Nat.le_of_ble_eq_true rfl)) d_Se_successes_9 ⟨Nat.le_of_ble_eq_true rfl, Nat.le_of_ble_eq_true rfl⟩)) (fun r1 hr9 => ?_)
  rw [hr9]
  exact W.iret (v := nI (numB (fun j => Su j && Mv j) 12)) hx hb hr (fun t ht hW => ⟨nI (numB (fun j => Su j && Mv j) 12), rfl, rfl, ht⟩) (fun q hq => by cases hq) d_Se_successes_12

theorem d_Se_contestedAreas_0 : decode b_Se_contestedAreas 0 = .ok (.iconst 0, 1) := by decide +kernel
theorem d_Se_contestedAreas_1 : decode b_Se_contestedAreas 1 = .ok (.istore_n 1, 1) := by decide +kernel
theorem d_Se_contestedAreas_2 : decode b_Se_contestedAreas 2 = .ok (.iconst 0, 1) := by decide +kernel
theorem d_Se_contestedAreas_3 : decode b_Se_contestedAreas 3 = .ok (.istore_n 2, 1) := by decide +kernel
theorem d_Se_contestedAreas_4 : decode b_Se_contestedAreas 4 = .ok (.iload_n 2, 1) := by decide +kernel
theorem d_Se_contestedAreas_5 : decode b_Se_contestedAreas 5 = .ok (.aload_n 0, 1) := by decide +kernel
theorem d_Se_contestedAreas_6 : decode b_Se_contestedAreas 6 = .ok (.getfield 27, 3) := by decide +kernel
theorem d_Se_contestedAreas_9 : decode b_Se_contestedAreas 9 = .ok (.getfield 93, 3) := by decide +kernel
theorem d_Se_contestedAreas_12 : decode b_Se_contestedAreas 12 = .ok (.if_icmp .ge 66, 3) := by decide +kernel
theorem d_Se_contestedAreas_15 : decode b_Se_contestedAreas 15 = .ok (.aload_n 0, 1) := by decide +kernel
theorem d_Se_contestedAreas_16 : decode b_Se_contestedAreas 16 = .ok (.getfield 66, 3) := by decide +kernel
theorem d_Se_contestedAreas_19 : decode b_Se_contestedAreas 19 = .ok (.aload_n 0, 1) := by decide +kernel
theorem d_Se_contestedAreas_20 : decode b_Se_contestedAreas 20 = .ok (.getfield 124, 3) := by decide +kernel
theorem d_Se_contestedAreas_23 : decode b_Se_contestedAreas 23 = .ok (.iand, 1) := by decide +kernel
theorem d_Se_contestedAreas_24 : decode b_Se_contestedAreas 24 = .ok (.aload_n 0, 1) := by decide +kernel
theorem d_Se_contestedAreas_25 : decode b_Se_contestedAreas 25 = .ok (.getfield 63, 3) := by decide +kernel
theorem d_Se_contestedAreas_28 : decode b_Se_contestedAreas 28 = .ok (.iconst (-1), 1) := by decide +kernel
theorem d_Se_contestedAreas_29 : decode b_Se_contestedAreas 29 = .ok (.ixor, 1) := by decide +kernel
theorem d_Se_contestedAreas_30 : decode b_Se_contestedAreas 30 = .ok (.iand, 1) := by decide +kernel
theorem d_Se_contestedAreas_31 : decode b_Se_contestedAreas 31 = .ok (.iload_n 2, 1) := by decide +kernel
theorem d_Se_contestedAreas_32 : decode b_Se_contestedAreas 32 = .ok (.invokestatic 83, 3) := by decide +kernel
theorem d_Se_contestedAreas_35 : decode b_Se_contestedAreas 35 = .ok (.ifCond .eq 37, 3) := by decide +kernel
theorem d_Se_contestedAreas_38 : decode b_Se_contestedAreas 38 = .ok (.aload_n 0, 1) := by decide +kernel
theorem d_Se_contestedAreas_39 : decode b_Se_contestedAreas 39 = .ok (.getfield 31, 3) := by decide +kernel
theorem d_Se_contestedAreas_42 : decode b_Se_contestedAreas 42 = .ok (.aload_n 0, 1) := by decide +kernel
theorem d_Se_contestedAreas_43 : decode b_Se_contestedAreas 43 = .ok (.getfield 31, 3) := by decide +kernel
theorem d_Se_contestedAreas_46 : decode b_Se_contestedAreas 46 = .ok (.getfield 105, 3) := by decide +kernel
theorem d_Se_contestedAreas_49 : decode b_Se_contestedAreas 49 = .ok (.iload_n 2, 1) := by decide +kernel
theorem d_Se_contestedAreas_50 : decode b_Se_contestedAreas 50 = .ok (.iaload, 1) := by decide +kernel
theorem d_Se_contestedAreas_51 : decode b_Se_contestedAreas 51 = .ok (.invokevirtual 127, 3) := by decide +kernel
theorem d_Se_contestedAreas_54 : decode b_Se_contestedAreas 54 = .ok (.ifCond .ne 18, 3) := by decide +kernel
theorem d_Se_contestedAreas_57 : decode b_Se_contestedAreas 57 = .ok (.iload_n 1, 1) := by decide +kernel
theorem d_Se_contestedAreas_58 : decode b_Se_contestedAreas 58 = .ok (.aload_n 0, 1) := by decide +kernel
theorem d_Se_contestedAreas_59 : decode b_Se_contestedAreas 59 = .ok (.getfield 31, 3) := by decide +kernel
theorem d_Se_contestedAreas_62 : decode b_Se_contestedAreas 62 = .ok (.getfield 105, 3) := by decide +kernel
theorem d_Se_contestedAreas_65 : decode b_Se_contestedAreas 65 = .ok (.iload_n 2, 1) := by decide +kernel
theorem d_Se_contestedAreas_66 : decode b_Se_contestedAreas 66 = .ok (.iaload, 1) := by decide +kernel
theorem d_Se_contestedAreas_67 : decode b_Se_contestedAreas 67 = .ok (.invokestatic 131, 3) := by decide +kernel
theorem d_Se_contestedAreas_70 : decode b_Se_contestedAreas 70 = .ok (.ior, 1) := by decide +kernel
theorem d_Se_contestedAreas_71 : decode b_Se_contestedAreas 71 = .ok (.istore_n 1, 1) := by decide +kernel
theorem d_Se_contestedAreas_72 : decode b_Se_contestedAreas 72 = .ok (.iinc 2 1, 3) := by decide +kernel
theorem d_Se_contestedAreas_75 : decode b_Se_contestedAreas 75 = .ok (.goto (-71), 3) := by decide +kernel
theorem d_Se_contestedAreas_78 : decode b_Se_contestedAreas 78 = .ok (.iload_n 1, 1) := by decide +kernel
theorem d_Se_contestedAreas_79 : decode b_Se_contestedAreas 79 = .ok (.ireturn, 1) := by decide +kernel

set_option maxHeartbeats 4000000 in
set_option maxRecDepth 100000 in
theorem c_Se_contested (l : Launch) (D : va_G) (cI cZ cJ cS : ClassId) (aT : Nat) (ceT : Cell) (h0 qm qs q1 q2 q3 q4 q5 : Nat) (St Mv Sm Ho Su Op Sd Od Sp Oq : Nat → Bool) (qh qn n : Nat) (S Ce : Nat → Bool) (tn : Int32) (qu qo qx qy qr qw : Nat) (X : Nat → Nat) (fu : Nat → Int32) (hX12 : ∀ j, X j < 12) (hn : n ≤ 12)  : Met l y_Se_contestedAreas w_Se_contestedAreas ({ frames := 1, cells := 0, slots := 0, locals := 21 }) (tP D cI cZ cJ cS aT ceT [.ref h0] [(h0, .inr (2, [.ref qm, .ref qs, .int (mI St), .int (mI Mv), .int (mI Sm), .int (mI Ho), .ref q1, .ref q2, .ref q3, .ref q4, .int (mI Su), .int (mI Op), .int (mI Sd), .int (mI Od), .int (mI Sp), .int (mI Oq), .ref q5])), (qm, .inr (4, [.int (nI n), .int (mI S), .int (mI Ce), .ref qh, .ref qn])), (qs, .inr (3, [.int tn, .ref qu, .ref qo, .ref qx, .ref qy, .ref qr, .ref qw])), (qx, .inl (cI, 12, .inl (fun j => nI (X j)))), (qu, .inl (cI, 12, .inl fu))]) (vp_Si (fun r => r = mI (ctS X (ctC Mv Sp Su X fu) n))) 0 0 (fun _ => False) := by
  refine Met.ofW (cc := b_Se_contestedAreas) (maxL := 3) (ret := (some .int)) (by decide) rfl ?_
  intro p e s m args below meth c s₁ B hml hv
  obtain ⟨rfl, hP, hK, hX⟩ := hv
  have hx := B.exec
  have hb := B.bytes
  have hr := B.returns
  have hts0 := atoms_spec (ws := w_Se_contestedAreas) B.pre
  have hts : ∀ w ∈ TB, w.before _ s = true := fun w h => hts0 w (List.mem_cons_of_mem _ h)
  have hown : s.vm.findClass R_Se = some m.cls := findClass_of_methodNamed B.named
  have hlocks := B.notSynchronized
  have hXH : s.heap[aT]? = s.heap[aT]? := rfl
  have hl := lv_entry ([.ref h0]) (n := 3) (Nat.le_of_ble_eq_true rfl)
  rw [lg_entry_eq]
  generalize (lg_sl ([.ref h0]) ++ List.replicate (3 - (lg_sl ([.ref h0])).length) Slot.unset).toArray = ls at hl ⊢
  have hl : lv_has ls 3 [(0, .ref h0)] := hl
  refine lv_iconst (v := 0) hx hb d_Se_contestedAreas_0 (by decide) ?_
  refine tr_top (y := mI (ctS X (ctC Mv Sp Su X fu) 0)) mI_0.symm ?_
  refine lv_istore_n (lv' := [(1, .int (mI (ctS X (ctC Mv Sp Su X fu) 0))), (0, .ref h0)]) hx hb d_Se_contestedAreas_1 rfl hl (by decide) rfl (fun ls hl => ?_)
  refine lv_iconst (v := 0) hx hb d_Se_contestedAreas_2 (by decide) ?_
  refine lv_istore_n (lv' := [(2, .int 0), (1, .int (mI (ctS X (ctC Mv Sp Su X fu) 0))), (0, .ref h0)]) hx hb d_Se_contestedAreas_3 rfl hl (by decide) rfl (fun ls hl => ?_)
  have loop : ∀ (k i : Nat) (ls : Array Slot), i + k = n → lv_has ls 3 [(2, .int (nI i)), (1, .int (mI (ctS X (ctC Mv Sp Su X fu) i))), (0, .ref h0)] → W p l e (headSpec w_Se_contestedAreas ({ frames := 1, cells := 0, slots := 0, locals := 21 })).room s m ([.ref h0]).toArray below meth c s.heap [] 0 0 (MQ below (vp_Si (fun r => r = mI (ctS X (ctC Mv Sp Su X fu) n))) ([.ref h0]).toArray s 0 0 (fun _ => False)) (F0 m 4 ls []) := by
    intro k
    induction k with
    | zero =>
      intro i ls hi hl
      have hie : i = n := by omega
      rw [hie] at hl
      refine lv_iload_n hx hb d_Se_contestedAreas_4 rfl (lv_at hl 0 rfl) ?_
      refine lv_aload_n hx hb d_Se_contestedAreas_5 rfl (lv_at hl 2 rfl) ?_
      refine va_get (D := D) (ci := 2) (v := .ref qm) (C := R_Se) (T := T_Se) (N := 17) hx hb hts hin_Se hown hK hP 0 rfl rfl 0 (by decide) (hts _ wd_103) (fun _ h9 => h9) rfl d_Se_contestedAreas_6 ?_
      refine va_get (D := D) (ci := 4) (v := .int (nI n)) (C := R_Wm) (T := T_Wm) (N := 5) hx hb hts hin_Wm hown hK hP 1 rfl rfl 0 (by decide) (hts _ wd_33) (fun _ h9 => h9) rfl d_Se_contestedAreas_9 ?_
      refine lv_icmp_ge (tgt := 78) hx hb d_Se_contestedAreas_12 (by decide) (fun _ => ?_) (fun h0 => absurd (Int32.le_refl _) h0)
      refine lv_iload_n hx hb d_Se_contestedAreas_78 rfl (lv_at hl 1 rfl) ?_
      exact W.iret (v := mI (ctS X (ctC Mv Sp Su X fu) n)) hx hb hr (fun t ht hW => ⟨mI (ctS X (ctC Mv Sp Su X fu) n), rfl, rfl, ht⟩) (fun q hq => by cases hq) d_Se_contestedAreas_79
    | succ k ih =>
      intro i ls hi hl
      have hlt : i < n := by omega
      have hlt12 : i < 12 := by omega
      refine lv_iload_n hx hb d_Se_contestedAreas_4 rfl (lv_at hl 0 rfl) ?_
      refine lv_aload_n hx hb d_Se_contestedAreas_5 rfl (lv_at hl 2 rfl) ?_
      refine va_get (D := D) (ci := 2) (v := .ref qm) (C := R_Se) (T := T_Se) (N := 17) hx hb hts hin_Se hown hK hP 0 rfl rfl 0 (by decide) (hts _ wd_103) (fun _ h9 => h9) rfl d_Se_contestedAreas_6 ?_
      refine va_get (D := D) (ci := 4) (v := .int (nI n)) (C := R_Wm) (T := T_Wm) (N := 5) hx hb hts hin_Wm hown hK hP 1 rfl rfl 0 (by decide) (hts _ wd_33) (fun _ h9 => h9) rfl d_Se_contestedAreas_9 ?_
      refine lv_icmp_ge (tgt := 78) hx hb d_Se_contestedAreas_12 (by decide) (fun h0 => absurd h0 (nI_ge hlt (by omega))) (fun _ => ?_)
      refine lv_aload_n hx hb d_Se_contestedAreas_15 rfl (lv_at hl 2 rfl) ?_
      refine va_get (D := D) (ci := 2) (v := .int (mI Mv)) (C := R_Se) (T := T_Se) (N := 17) hx hb hts hin_Se hown hK hP 0 rfl rfl 3 (by decide) (hts _ wd_106) (fun _ h9 => h9) rfl d_Se_contestedAreas_16 ?_
      refine lv_aload_n hx hb d_Se_contestedAreas_19 rfl (lv_at hl 2 rfl) ?_
      refine va_get (D := D) (ci := 2) (v := .int (mI Sp)) (C := R_Se) (T := T_Se) (N := 17) hx hb hts hin_Se hown hK hP 0 rfl rfl 14 (by decide) (hts _ wd_117) (fun _ h9 => h9) rfl d_Se_contestedAreas_20 ?_
      refine lv_iand hx hb d_Se_contestedAreas_23 ?_
      refine tr_top (y := mI (fun j => Mv j && Sp j)) (mI_and _ _) ?_
      refine lv_aload_n hx hb d_Se_contestedAreas_24 rfl (lv_at hl 2 rfl) ?_
      refine va_get (D := D) (ci := 2) (v := .int (mI Su)) (C := R_Se) (T := T_Se) (N := 17) hx hb hts hin_Se hown hK hP 0 rfl rfl 10 (by decide) (hts _ wd_113) (fun _ h9 => h9) rfl d_Se_contestedAreas_25 ?_
      refine lv_iconst (v := (-1)) hx hb d_Se_contestedAreas_28 (by decide) ?_
      refine lv_ixor hx hb d_Se_contestedAreas_29 ?_
      refine lv_iand hx hb d_Se_contestedAreas_30 ?_
      refine tr_top (y := mI (fun j => (Mv j && Sp j) && !(Su j))) (mI_diff _ _) ?_
      refine lv_iload_n hx hb d_Se_contestedAreas_31 rfl (lv_at hl 0 rfl) ?_
      have hPc := hP.sub (ws' := []) [] rfl
      refine vp_callSi (va_Run.run (va_runSN (As := [.int (mI (fun j => (Mv j && Sp j) && !(Su j))), .int (nI i)]) (rest := []) ⟨hx, hb, hml, hown, hts⟩ (c_Sw_in l D cI cZ cJ cS aT ceT  (fun j => (Mv j && Sp j) && !(Su j)) i hlt12) (⟨va_cnB 2 hts (tb_c wd_285) rfl rfl rfl hX.2.2.2.2.2.2.2.1 (hts _ wd_1) ⟨by decide, by decide, by decide +kernel⟩ ⟨Nat.le_of_ble_eq_true rfl, Nat.le_of_ble_eq_true rfl⟩, hts _ wd_284, trivial⟩) (tP_S hK hX hXH hPc) rfl rfl hl.1 rfl (lv_room (Nat.le_of_ble_eq_true rfl)) d_Se_contestedAreas_32 ⟨Nat.le_of_ble_eq_true rfl, Nat.le_of_ble_eq_true rfl⟩)) (fun r3 hr9 => ?_)
      rw [hr9]
      rcases bI_c ((Mv i && Sp i) && !(Su i)) with ⟨hb5, e9⟩ | ⟨hb5, e9⟩
      · refine tr_top e9 ?_
        refine lv_if_eq (tgt := 72) hx hb d_Se_contestedAreas_35 (by decide) (fun h0 => absurd h0 (by decide)) (fun _ => ?_)
        refine lv_aload_n hx hb d_Se_contestedAreas_38 rfl (lv_at hl 2 rfl) ?_
        refine va_get (D := D) (ci := 2) (v := .ref qs) (C := R_Se) (T := T_Se) (N := 17) hx hb hts hin_Se hown hK hP 0 rfl rfl 1 (by decide) (hts _ wd_104) (fun _ h9 => h9) rfl d_Se_contestedAreas_39 ?_
        refine lv_aload_n hx hb d_Se_contestedAreas_42 rfl (lv_at hl 2 rfl) ?_
        refine va_get (D := D) (ci := 2) (v := .ref qs) (C := R_Se) (T := T_Se) (N := 17) hx hb hts hin_Se hown hK hP 0 rfl rfl 1 (by decide) (hts _ wd_104) (fun _ h9 => h9) rfl d_Se_contestedAreas_43 ?_
        refine va_get (D := D) (ci := 3) (v := .ref qx) (C := R_Sh) (T := T_Sh) (N := 7) hx hb hts hin_Sh hown hK hP 2 rfl rfl 3 (by decide) (hts _ wd_72) (fun _ h9 => h9) rfl d_Se_contestedAreas_46 ?_
        refine lv_iload_n hx hb d_Se_contestedAreas_49 rfl (lv_at hl 0 rfl) ?_
        refine tr_iald (v := nI (X i)) hx hb hK hP 3 0 rfl rfl i hlt12 (by decide) rfl d_Se_contestedAreas_50 ?_
        have hPc := hP.sub (ws' := [(qs, .inr (3, [.int tn, .ref qu, .ref qo, .ref qx, .ref qy, .ref qr, .ref qw])), (qu, .inl (cI, 12, .inl fu))]) [2, 4] rfl
        refine vp_callSi (va_Run.run (va_runV (As := [.int (nI (X i))]) (rest := []) ⟨hx, hb, hml, hown, hts⟩ (c_Sh_hasUnitP l D cI cZ cJ cS aT ceT  qs tn qu qo qx qy qr qw fu (X i) (hX12 _)) (cwV 1 hts (tb_4 wd_514 wd_287 wd_288 wd_3 (tb_c wd_289)) rfl rfl rfl ⟨rfl, by decide, by decide, by decide +kernel⟩ ⟨Nat.le_of_ble_eq_true rfl, Nat.le_of_ble_eq_true rfl⟩) (tP_V hK hX hXH hPc (q := 0) rfl rfl) rfl rfl hl.1 rfl (lv_room (Nat.le_of_ble_eq_true rfl)) d_Se_contestedAreas_51 ⟨Nat.le_of_ble_eq_true rfl, Nat.le_of_ble_eq_true rfl⟩)) (fun r7 hr9 => ?_)
        rw [hr9]
        rcases bI_c (!decide (fu (X i) = -1)) with ⟨hb9, e9⟩ | ⟨hb9, e9⟩
        · refine tr_top e9 ?_
          refine lv_if_ne (tgt := 72) hx hb d_Se_contestedAreas_54 (by decide) (fun _ => ?_) (fun h0 => absurd h0 (by decide))
          refine lv_iinc (lv' := [(2, .int ((nI i) + 1)), (1, .int (mI (ctS X (ctC Mv Sp Su X fu) i))), (0, .ref h0)]) hx hb d_Se_contestedAreas_72 hl (k := 0) rfl rfl (by decide) rfl (fun ls hl => ?_)
          refine lv_goto (tgt := 4) hx hb d_Se_contestedAreas_75 (by decide) ?_
          have e11 : (nI i) + 1 = nI (i + 1) := nI_1 i
          have e12 : mI (ctS X (ctC Mv Sp Su X fu) i) = mI (ctS X (ctC Mv Sp Su X fu) (i + 1)) := ctS_N (show (ctC Mv Sp Su X fu) i = false by simp only [ctC, hb5, hb9] <;> rfl)
          exact ih (i + 1) ls (by omega) (by rw [← e11, ← e12]; exact lv_sub hl [0, 1, 2] rfl)
        · refine tr_top e9 ?_
          refine lv_if_ne (tgt := 72) hx hb d_Se_contestedAreas_54 (by decide) (fun h0 => absurd (by decide) h0) (fun _ => ?_)
          refine lv_iload_n hx hb d_Se_contestedAreas_57 rfl (lv_at hl 1 rfl) ?_
          refine lv_aload_n hx hb d_Se_contestedAreas_58 rfl (lv_at hl 2 rfl) ?_
          refine va_get (D := D) (ci := 2) (v := .ref qs) (C := R_Se) (T := T_Se) (N := 17) hx hb hts hin_Se hown hK hP 0 rfl rfl 1 (by decide) (hts _ wd_104) (fun _ h9 => h9) rfl d_Se_contestedAreas_59 ?_
          refine va_get (D := D) (ci := 3) (v := .ref qx) (C := R_Sh) (T := T_Sh) (N := 7) hx hb hts hin_Sh hown hK hP 2 rfl rfl 3 (by decide) (hts _ wd_72) (fun _ h9 => h9) rfl d_Se_contestedAreas_62 ?_
          refine lv_iload_n hx hb d_Se_contestedAreas_65 rfl (lv_at hl 0 rfl) ?_
          refine tr_iald (v := nI (X i)) hx hb hK hP 3 0 rfl rfl i hlt12 (by decide) rfl d_Se_contestedAreas_66 ?_
          have hPc := hP.sub (ws' := []) [] rfl
          refine vp_callSi (va_Run.run (va_runSN (As := [.int (nI (X i))]) (rest := [.int (mI (ctS X (ctC Mv Sp Su X fu) i))]) ⟨hx, hb, hml, hown, hts⟩ (c_Sw_bitN l D cI cZ cJ cS aT ceT  (X i) (hX12 _)) (⟨va_cnB 1 hts (tb_c wd_411) rfl rfl rfl hX.2.2.2.2.2.2.2.2.1 (hts _ wd_1) ⟨by decide, by decide, by decide +kernel⟩ ⟨Nat.le_of_ble_eq_true rfl, Nat.le_of_ble_eq_true rfl⟩, hts _ wd_410, trivial⟩) (tP_S hK hX hXH hPc) rfl rfl hl.1 rfl (lv_room (Nat.le_of_ble_eq_true rfl)) d_Se_contestedAreas_67 ⟨Nat.le_of_ble_eq_true rfl, Nat.le_of_ble_eq_true rfl⟩)) (fun r14 hr9 => ?_)
          rw [hr9]
          refine lv_ior hx hb d_Se_contestedAreas_70 ?_
          refine tr_top (y := mI (fun j => ctS X (ctC Mv Sp Su X fu) i j || decide (j = (X i)))) (mI_or _ _) ?_
          refine lv_istore_n (lv' := [(1, .int (mI (fun j => ctS X (ctC Mv Sp Su X fu) i j || decide (j = (X i))))), (2, .int (nI i)), (0, .ref h0)]) hx hb d_Se_contestedAreas_71 rfl hl (by decide) rfl (fun ls hl => ?_)
          refine lv_iinc (lv' := [(2, .int ((nI i) + 1)), (1, .int (mI (fun j => ctS X (ctC Mv Sp Su X fu) i j || decide (j = (X i))))), (0, .ref h0)]) hx hb d_Se_contestedAreas_72 hl (k := 1) rfl rfl (by decide) rfl (fun ls hl => ?_)
          refine lv_goto (tgt := 4) hx hb d_Se_contestedAreas_75 (by decide) ?_
          have e15 : (nI i) + 1 = nI (i + 1) := nI_1 i
          have e16 : mI (fun j => ctS X (ctC Mv Sp Su X fu) i j || decide (j = (X i))) = mI (ctS X (ctC Mv Sp Su X fu) (i + 1)) := ctS_Y (show (ctC Mv Sp Su X fu) i = true by simp only [ctC, hb5, hb9] <;> rfl)
          exact ih (i + 1) ls (by omega) (by rw [← e15, ← e16]; exact lv_sub hl [0, 1, 2] rfl)
      · refine tr_top e9 ?_
        refine lv_if_eq (tgt := 72) hx hb d_Se_contestedAreas_35 (by decide) (fun _ => ?_) (fun h0 => absurd (by decide) h0)
        refine lv_iinc (lv' := [(2, .int ((nI i) + 1)), (1, .int (mI (ctS X (ctC Mv Sp Su X fu) i))), (0, .ref h0)]) hx hb d_Se_contestedAreas_72 hl (k := 0) rfl rfl (by decide) rfl (fun ls hl => ?_)
        refine lv_goto (tgt := 4) hx hb d_Se_contestedAreas_75 (by decide) ?_
        have e18 : (nI i) + 1 = nI (i + 1) := nI_1 i
        have e19 : mI (ctS X (ctC Mv Sp Su X fu) i) = mI (ctS X (ctC Mv Sp Su X fu) (i + 1)) := ctS_N (show (ctC Mv Sp Su X fu) i = false by simp only [ctC, hb5] <;> rfl)
        exact ih (i + 1) ls (by omega) (by rw [← e18, ← e19]; exact lv_sub hl [0, 1, 2] rfl)
  exact loop n 0 ls (Nat.zero_add _) hl

theorem d_As_clear_0 : decode b_As_clear 0 = .ok (.aload_n 0, 1) := by decide +kernel
theorem d_As_clear_1 : decode b_As_clear 1 = .ok (.getfield 9, 3) := by decide +kernel
theorem d_As_clear_4 : decode b_As_clear 4 = .ok (.iconst (-1), 1) := by decide +kernel
theorem d_As_clear_5 : decode b_As_clear 5 = .ok (.invokestatic 21, 3) := by decide +kernel
theorem d_As_clear_8 : decode b_As_clear 8 = .ok (.aload_n 0, 1) := by decide +kernel
theorem d_As_clear_9 : decode b_As_clear 9 = .ok (.getfield 15, 3) := by decide +kernel
theorem d_As_clear_12 : decode b_As_clear 12 = .ok (.iconst (-1), 1) := by decide +kernel
theorem d_As_clear_13 : decode b_As_clear 13 = .ok (.invokestatic 21, 3) := by decide +kernel
theorem d_As_clear_16 : decode b_As_clear 16 = .ok (.aload_n 0, 1) := by decide +kernel
theorem d_As_clear_17 : decode b_As_clear 17 = .ok (.getfield 18, 3) := by decide +kernel
theorem d_As_clear_20 : decode b_As_clear 20 = .ok (.iconst (-1), 1) := by decide +kernel
theorem d_As_clear_21 : decode b_As_clear 21 = .ok (.invokestatic 21, 3) := by decide +kernel
theorem d_As_clear_24 : decode b_As_clear 24 = .ok (.aload_n 0, 1) := by decide +kernel
theorem d_As_clear_25 : decode b_As_clear 25 = .ok (.iconst 0, 1) := by decide +kernel
theorem d_As_clear_26 : decode b_As_clear 26 = .ok (.putfield 27, 3) := by decide +kernel
theorem d_As_clear_29 : decode b_As_clear 29 = .ok (.return_, 1) := by decide +kernel
theorem wd_170 : (Cond.fieldLink "SheetWar$Aside" (27 : Nat) "SheetWar$Aside" "contested" "I") ∈ TB := tb_t 170 (by decide +kernel) (by decide +kernel)
set_option maxHeartbeats 4000000 in
set_option maxRecDepth 100000 in
theorem c_As_clear (l : Launch) (D : va_G) (cI cZ cJ cS : ClassId) (aT : Nat) (ceT : Cell) (sz : Nat) (h0 : Nat) (au ao ag : Nat) (ac : Int32) (ga go gg : Nat → Int32)  : Met l y_As_clear w_As_clear ({ frames := 1, cells := 0, slots := 0, locals := 23 }) (tH D cI cZ cJ cS aT ceT [.ref h0] sz [(h0, .inr (0, [.ref au, .ref ao, .ref ag, .int ac])), (au, .inl (cI, 12, .inl ga)), (ao, .inl (cI, 12, .inl go)), (ag, .inl (cI, 12, .inl gg))]) (va_Qv (fun _ : Unit => True) (fun _ t => tB D (va_A [(h0, .inr (0, [.ref au, .ref ao, .ref ag, .int ac])), (au, .inl (cI, 12, .inl ga)), (ao, .inl (cI, 12, .inl go)), (ag, .inl (cI, 12, .inl gg))] sz) [(h0, .inr (0, [.ref au, .ref ao, .ref ag, .int 0])), (au, .inl (cI, 12, .inl (fun _ => (-1)))), (ao, .inl (cI, 12, .inl (fun _ => (-1)))), (ag, .inl (cI, 12, .inl (fun _ => (-1))))] t) (va_A [(h0, .inr (0, [.ref au, .ref ao, .ref ag, .int ac])), (au, .inl (cI, 12, .inl ga)), (ao, .inl (cI, 12, .inl go)), (ag, .inl (cI, 12, .inl gg))] sz)) 0 0 (va_A [(h0, .inr (0, [.ref au, .ref ao, .ref ag, .int ac])), (au, .inl (cI, 12, .inl ga)), (ao, .inl (cI, 12, .inl go)), (ag, .inl (cI, 12, .inl gg))] sz) := by
  refine Met.ofW (cc := b_As_clear) (maxL := 1) (ret := none) (by decide) rfl ?_
  intro p e s m args below meth c s₁ B hml hv
  obtain ⟨rfl, hsz, hP, hK, hD0, hX⟩ := hv
  have hx := B.exec
  have hb := B.bytes
  have hr := B.returns
  have hts0 := atoms_spec (ws := w_As_clear) B.pre
  have hts : ∀ w ∈ TB, w.before _ s = true := fun w h => hts0 w (List.mem_cons_of_mem _ h)
  have hown : s.vm.findClass R_As = some m.cls := findClass_of_methodNamed B.named
  have hlocks := B.notSynchronized
  subst hsz
  have hXl := tx_lt hX
  have hXn := tx_far hP hX
  have hD := hD0.self (sz := s.heap.size)
  generalize hAe : va_A [(h0, .inr (0, [.ref au, .ref ao, .ref ag, .int ac])), (au, .inl (cI, 12, .inl ga)), (ao, .inl (cI, 12, .inl go)), (ag, .inl (cI, 12, .inl gg))] s.heap.size = A at hD hXn ⊢
  have hA : ∀ q : Nat, s.heap.size ≤ q → A q := fun q h => by rw [← hAe]; exact Or.inr h
  have hS : va_S A s.heap s.heap [] := va_S.rf
  have hXH : s.heap[aT]? = s.heap[aT]? := rfl
  have hl := lv_entry ([.ref h0]) (n := 1) (Nat.le_of_ble_eq_true rfl)
  rw [lg_entry_eq]
  generalize (lg_sl ([.ref h0]) ++ List.replicate (1 - (lg_sl ([.ref h0])).length) Slot.unset).toArray = ls at hl ⊢
  have hl : lv_has ls 1 [(0, .ref h0)] := hl
  refine lv_aload_n hx hb d_As_clear_0 rfl (lv_at hl 0 rfl) ?_
  refine va_get (D := D) (ci := 0) (v := .ref au) (C := R_As) (T := T_As) (N := 4) hx hb hts hin_As hown hK hP 0 rfl rfl 0 (by decide) (hts _ wd_162) (fun _ h9 => h9) rfl d_As_clear_1 ?_
  refine lv_iconst (v := (-1)) hx hb d_As_clear_4 (by decide) ?_
  have hPc := hP.sub (ws' := [(au, .inl (cI, 12, .inl ga))]) [1] rfl
  have hDc := hD.sub (ws' := [(au, .inl (cI, 12, .inl ga))]) [1] (by decide) rfl
  have hFc := va_free (wc := [(au, .inl (cI, 12, .inl ga))]) hD hS hA [1] rfl
  refine va_callv (va_runS (As := [.ref au, .int (-1)]) (rest := []) ⟨hx, hb, hml, hown, hts⟩ (c_Ar_fill l D cI cZ cJ cS aT ceT s.heap.size au 12 ga (-1) (by decide)) (va_cwS 2 hts (tb_3 wd_161 wd_60 wd_4 (tb_c wd_61)) rfl rfl rfl ⟨by decide, by decide, by decide +kernel⟩ ⟨Nat.le_of_ble_eq_true rfl, Nat.le_of_ble_eq_true rfl⟩) (tH_S hK hX (hS.2.1 aT hXl hXn) hPc hDc) rfl rfl hl.1 rfl (lv_room (Nat.le_of_ble_eq_true rfl)) d_As_clear_5 ⟨Nat.le_of_ble_eq_true rfl, Nat.le_of_ble_eq_true rfl⟩) hS (fun q _ h => hFc q h) hFc (fun u t H1 locs ht hvm h9 hB hz1 hk1 hS => ?_)
  obtain ⟨hP1, hD1⟩ := hB
  rw [ht] at hP1
  obtain ⟨hP, hD⟩ := va_join (wr := [(h0, .inr (0, [.ref au, .ref ao, .ref ag, .int ac])), (ao, .inl (cI, 12, .inl go)), (ag, .inl (cI, 12, .inl gg))]) (w1 := [(au, .inl (cI, 12, .inl (fun _ => (-1 : Int32))))]) hP hD [1] [0, 2, 3] rfl rfl (by decide) (by decide) hk1 hFc hP1 hD1
  generalize H1 = H at hP hS ⊢
  have hP : va_P D vwCl [(h0, .inr (0, [.ref au, .ref ao, .ref ag, .int ac])), (ao, .inl (cI, 12, .inl go)), (ag, .inl (cI, 12, .inl gg)), (au, .inl (cI, 12, .inl (fun _ => (-1 : Int32))))] H := hP
  have hD : va_D A [(h0, .inr (0, [.ref au, .ref ao, .ref ag, .int ac])), (ao, .inl (cI, 12, .inl go)), (ag, .inl (cI, 12, .inl gg)), (au, .inl (cI, 12, .inl (fun _ => (-1 : Int32))))] := hD
  refine lv_aload_n hx hb d_As_clear_8 rfl (lv_at hl 0 rfl) ?_
  refine va_get (D := D) (ci := 0) (v := .ref ao) (C := R_As) (T := T_As) (N := 4) hx hb hts hin_As hown hK hP 0 rfl rfl 1 (by decide) (hts _ wd_165) (fun _ h9 => h9) rfl d_As_clear_9 ?_
  refine lv_iconst (v := (-1)) hx hb d_As_clear_12 (by decide) ?_
  have hPc := hP.sub (ws' := [(ao, .inl (cI, 12, .inl go))]) [1] rfl
  have hDc := hD.sub (ws' := [(ao, .inl (cI, 12, .inl go))]) [1] (by decide) rfl
  have hFc := va_free (wc := [(ao, .inl (cI, 12, .inl go))]) hD hS hA [1] rfl
  refine va_callv (va_runS (As := [.ref ao, .int (-1)]) (rest := []) ⟨hx, hb, hml, hown, hts⟩ (c_Ar_fill l D cI cZ cJ cS aT ceT H.size ao 12 go (-1) (by decide)) (va_cwS 2 hts (tb_3 wd_161 wd_60 wd_4 (tb_c wd_61)) rfl rfl rfl ⟨by decide, by decide, by decide +kernel⟩ ⟨Nat.le_of_ble_eq_true rfl, Nat.le_of_ble_eq_true rfl⟩) (tH_S hK hX (hS.2.1 aT hXl hXn) hPc hDc) rfl rfl hl.1 rfl (lv_room (Nat.le_of_ble_eq_true rfl)) d_As_clear_13 ⟨Nat.le_of_ble_eq_true rfl, Nat.le_of_ble_eq_true rfl⟩) hS (fun q _ h => hFc q h) hFc (fun u t H1 locs ht hvm h9 hB hz1 hk1 hS => ?_)
  obtain ⟨hP1, hD1⟩ := hB
  rw [ht] at hP1
  obtain ⟨hP, hD⟩ := va_join (wr := [(h0, .inr (0, [.ref au, .ref ao, .ref ag, .int ac])), (ag, .inl (cI, 12, .inl gg)), (au, .inl (cI, 12, .inl (fun _ => (-1 : Int32))))]) (w1 := [(ao, .inl (cI, 12, .inl (fun _ => (-1 : Int32))))]) hP hD [1] [0, 2, 3] rfl rfl (by decide) (by decide) hk1 hFc hP1 hD1
  generalize H1 = H at hP hS ⊢
  have hP : va_P D vwCl [(h0, .inr (0, [.ref au, .ref ao, .ref ag, .int ac])), (ag, .inl (cI, 12, .inl gg)), (au, .inl (cI, 12, .inl (fun _ => (-1 : Int32)))), (ao, .inl (cI, 12, .inl (fun _ => (-1 : Int32))))] H := hP
  have hD : va_D A [(h0, .inr (0, [.ref au, .ref ao, .ref ag, .int ac])), (ag, .inl (cI, 12, .inl gg)), (au, .inl (cI, 12, .inl (fun _ => (-1 : Int32)))), (ao, .inl (cI, 12, .inl (fun _ => (-1 : Int32))))] := hD
  refine lv_aload_n hx hb d_As_clear_16 rfl (lv_at hl 0 rfl) ?_
  refine va_get (D := D) (ci := 0) (v := .ref ag) (C := R_As) (T := T_As) (N := 4) hx hb hts hin_As hown hK hP 0 rfl rfl 2 (by decide) (hts _ wd_168) (fun _ h9 => h9) rfl d_As_clear_17 ?_
  refine lv_iconst (v := (-1)) hx hb d_As_clear_20 (by decide) ?_
  have hPc := hP.sub (ws' := [(ag, .inl (cI, 12, .inl gg))]) [1] rfl
  have hDc := hD.sub (ws' := [(ag, .inl (cI, 12, .inl gg))]) [1] (by decide) rfl
  have hFc := va_free (wc := [(ag, .inl (cI, 12, .inl gg))]) hD hS hA [1] rfl
  refine va_callv (va_runS (As := [.ref ag, .int (-1)]) (rest := []) ⟨hx, hb, hml, hown, hts⟩ (c_Ar_fill l D cI cZ cJ cS aT ceT H.size ag 12 gg (-1) (by decide)) (va_cwS 2 hts (tb_3 wd_161 wd_60 wd_4 (tb_c wd_61)) rfl rfl rfl ⟨by decide, by decide, by decide +kernel⟩ ⟨Nat.le_of_ble_eq_true rfl, Nat.le_of_ble_eq_true rfl⟩) (tH_S hK hX (hS.2.1 aT hXl hXn) hPc hDc) rfl rfl hl.1 rfl (lv_room (Nat.le_of_ble_eq_true rfl)) d_As_clear_21 ⟨Nat.le_of_ble_eq_true rfl, Nat.le_of_ble_eq_true rfl⟩) hS (fun q _ h => hFc q h) hFc (fun u t H1 locs ht hvm h9 hB hz1 hk1 hS => ?_)
  obtain ⟨hP1, hD1⟩ := hB
  rw [ht] at hP1
  obtain ⟨hP, hD⟩ := va_join (wr := [(h0, .inr (0, [.ref au, .ref ao, .ref ag, .int ac])), (au, .inl (cI, 12, .inl (fun _ => (-1 : Int32)))), (ao, .inl (cI, 12, .inl (fun _ => (-1 : Int32))))]) (w1 := [(ag, .inl (cI, 12, .inl (fun _ => (-1 : Int32))))]) hP hD [1] [0, 2, 3] rfl rfl (by decide) (by decide) hk1 hFc hP1 hD1
  generalize H1 = H at hP hS ⊢
  have hP : va_P D vwCl [(h0, .inr (0, [.ref au, .ref ao, .ref ag, .int ac])), (au, .inl (cI, 12, .inl (fun _ => (-1 : Int32)))), (ao, .inl (cI, 12, .inl (fun _ => (-1 : Int32)))), (ag, .inl (cI, 12, .inl (fun _ => (-1 : Int32))))] H := hP
  have hD : va_D A [(h0, .inr (0, [.ref au, .ref ao, .ref ag, .int ac])), (au, .inl (cI, 12, .inl (fun _ => (-1 : Int32)))), (ao, .inl (cI, 12, .inl (fun _ => (-1 : Int32)))), (ag, .inl (cI, 12, .inl (fun _ => (-1 : Int32))))] := hD
  refine lv_aload_n hx hb d_As_clear_24 rfl (lv_at hl 0 rfl) ?_
  refine lv_iconst (v := 0) hx hb d_As_clear_25 (by decide) ?_
  refine va_put (D := D) (ci := 0) (v := .int 0) (ty := .int) (C := R_As) (T := T_As) (N := 4) hx hb hts hin_As ty_As tyok_As nm_As hown hK hP hD hS 0 rfl rfl 3 (by decide) (hts _ wd_170) (fun _ h9 => h9) rfl (by decide +kernel) rfl rfl (Nat.le_of_ble_eq_true rfl) d_As_clear_26 (fun H locs hP hD hS => ?_)
  have hP : va_P D vwCl [(h0, .inr (0, [.ref au, .ref ao, .ref ag, .int 0])), (au, .inl (cI, 12, .inl (fun _ => (-1 : Int32)))), (ao, .inl (cI, 12, .inl (fun _ => (-1 : Int32)))), (ag, .inl (cI, 12, .inl (fun _ => (-1 : Int32))))] H := hP
  have hD : va_D A [(h0, .inr (0, [.ref au, .ref ao, .ref ag, .int 0])), (au, .inl (cI, 12, .inl (fun _ => (-1 : Int32)))), (ao, .inl (cI, 12, .inl (fun _ => (-1 : Int32)))), (ag, .inl (cI, 12, .inl (fun _ => (-1 : Int32))))] := hD
  have hP9 := hP.sub (ws' := [(h0, .inr (0, [.ref au, .ref ao, .ref ag, .int 0])), (au, .inl (cI, 12, .inl (fun _ => (-1 : Int32)))), (ao, .inl (cI, 12, .inl (fun _ => (-1 : Int32)))), (ag, .inl (cI, 12, .inl (fun _ => (-1 : Int32))))]) [0, 1, 2, 3] rfl
  have hD9 := hD.sub (ws' := [(h0, .inr (0, [.ref au, .ref ao, .ref ag, .int 0])), (au, .inl (cI, 12, .inl (fun _ => (-1 : Int32)))), (ao, .inl (cI, 12, .inl (fun _ => (-1 : Int32)))), (ag, .inl (cI, 12, .inl (fun _ => (-1 : Int32))))]) [0, 1, 2, 3] (by decide) rfl
  exact W.vret hx hb hr (fun t ht hW => ⟨⟨(), rfl, trivial, by rw [ht]; exact hP9, hD9⟩, hS.F ht⟩) hS.2.2 d_As_clear_29

theorem d_Se_moveUnits_0 : decode b_Se_moveUnits 0 = .ok (.aload_n 1, 1) := by decide +kernel
theorem d_Se_moveUnits_1 : decode b_Se_moveUnits 1 = .ok (.invokevirtual 90, 3) := by decide +kernel
theorem d_Se_moveUnits_4 : decode b_Se_moveUnits 4 = .ok (.iconst 0, 1) := by decide +kernel
theorem d_Se_moveUnits_5 : decode b_Se_moveUnits 5 = .ok (.istore_n 2, 1) := by decide +kernel
theorem d_Se_moveUnits_6 : decode b_Se_moveUnits 6 = .ok (.iload_n 2, 1) := by decide +kernel
theorem d_Se_moveUnits_7 : decode b_Se_moveUnits 7 = .ok (.aload_n 0, 1) := by decide +kernel
theorem d_Se_moveUnits_8 : decode b_Se_moveUnits 8 = .ok (.getfield 27, 3) := by decide +kernel
theorem d_Se_moveUnits_11 : decode b_Se_moveUnits 11 = .ok (.getfield 93, 3) := by decide +kernel
theorem d_Se_moveUnits_14 : decode b_Se_moveUnits 14 = .ok (.if_icmp .ge 78, 3) := by decide +kernel
theorem d_Se_moveUnits_17 : decode b_Se_moveUnits 17 = .ok (.aload_n 0, 1) := by decide +kernel
theorem d_Se_moveUnits_18 : decode b_Se_moveUnits 18 = .ok (.getfield 24, 3) := by decide +kernel
theorem d_Se_moveUnits_21 : decode b_Se_moveUnits 21 = .ok (.iload_n 2, 1) := by decide +kernel
theorem d_Se_moveUnits_22 : decode b_Se_moveUnits 22 = .ok (.aload_n 0, 1) := by decide +kernel
theorem d_Se_moveUnits_23 : decode b_Se_moveUnits 23 = .ok (.getfield 31, 3) := by decide +kernel
theorem d_Se_moveUnits_26 : decode b_Se_moveUnits 26 = .ok (.getfield 98, 3) := by decide +kernel
theorem d_Se_moveUnits_29 : decode b_Se_moveUnits 29 = .ok (.iload_n 2, 1) := by decide +kernel
theorem d_Se_moveUnits_30 : decode b_Se_moveUnits 30 = .ok (.iaload, 1) := by decide +kernel
theorem d_Se_moveUnits_31 : decode b_Se_moveUnits 31 = .ok (.iastore, 1) := by decide +kernel
theorem d_Se_moveUnits_32 : decode b_Se_moveUnits 32 = .ok (.aload_n 0, 1) := by decide +kernel
theorem d_Se_moveUnits_33 : decode b_Se_moveUnits 33 = .ok (.getfield 101, 3) := by decide +kernel
theorem d_Se_moveUnits_36 : decode b_Se_moveUnits 36 = .ok (.iload_n 2, 1) := by decide +kernel
theorem d_Se_moveUnits_37 : decode b_Se_moveUnits 37 = .ok (.invokestatic 83, 3) := by decide +kernel
theorem d_Se_moveUnits_40 : decode b_Se_moveUnits 40 = .ok (.ifCond .eq 15, 3) := by decide +kernel
theorem d_Se_moveUnits_43 : decode b_Se_moveUnits 43 = .ok (.aload_n 1, 1) := by decide +kernel
theorem d_Se_moveUnits_44 : decode b_Se_moveUnits 44 = .ok (.getfield 104, 3) := by decide +kernel
theorem d_Se_moveUnits_47 : decode b_Se_moveUnits 47 = .ok (.iload_n 2, 1) := by decide +kernel
theorem d_Se_moveUnits_48 : decode b_Se_moveUnits 48 = .ok (.aload_n 0, 1) := by decide +kernel
theorem d_Se_moveUnits_49 : decode b_Se_moveUnits 49 = .ok (.getfield 24, 3) := by decide +kernel
theorem d_Se_moveUnits_52 : decode b_Se_moveUnits 52 = .ok (.iload_n 2, 1) := by decide +kernel
theorem d_Se_moveUnits_53 : decode b_Se_moveUnits 53 = .ok (.iaload, 1) := by decide +kernel
theorem d_Se_moveUnits_54 : decode b_Se_moveUnits 54 = .ok (.iastore, 1) := by decide +kernel
theorem d_Se_moveUnits_55 : decode b_Se_moveUnits 55 = .ok (.aload_n 0, 1) := by decide +kernel
theorem d_Se_moveUnits_56 : decode b_Se_moveUnits 56 = .ok (.getfield 101, 3) := by decide +kernel
theorem d_Se_moveUnits_59 : decode b_Se_moveUnits 59 = .ok (.aload_n 0, 1) := by decide +kernel
theorem d_Se_moveUnits_60 : decode b_Se_moveUnits 60 = .ok (.getfield 63, 3) := by decide +kernel
theorem d_Se_moveUnits_63 : decode b_Se_moveUnits 63 = .ok (.aload_n 0, 1) := by decide +kernel
theorem d_Se_moveUnits_64 : decode b_Se_moveUnits 64 = .ok (.getfield 66, 3) := by decide +kernel
theorem d_Se_moveUnits_67 : decode b_Se_moveUnits 67 = .ok (.iand, 1) := by decide +kernel
theorem d_Se_moveUnits_68 : decode b_Se_moveUnits 68 = .ok (.ior, 1) := by decide +kernel
theorem d_Se_moveUnits_69 : decode b_Se_moveUnits 69 = .ok (.iload_n 2, 1) := by decide +kernel
theorem d_Se_moveUnits_70 : decode b_Se_moveUnits 70 = .ok (.invokestatic 83, 3) := by decide +kernel
theorem d_Se_moveUnits_73 : decode b_Se_moveUnits 73 = .ok (.ifCond .eq 13, 3) := by decide +kernel
theorem d_Se_moveUnits_76 : decode b_Se_moveUnits 76 = .ok (.aload_n 0, 1) := by decide +kernel
theorem d_Se_moveUnits_77 : decode b_Se_moveUnits 77 = .ok (.getfield 31, 3) := by decide +kernel
theorem d_Se_moveUnits_80 : decode b_Se_moveUnits 80 = .ok (.getfield 98, 3) := by decide +kernel
theorem d_Se_moveUnits_83 : decode b_Se_moveUnits 83 = .ok (.iload_n 2, 1) := by decide +kernel
theorem d_Se_moveUnits_84 : decode b_Se_moveUnits 84 = .ok (.iconst (-1), 1) := by decide +kernel
theorem d_Se_moveUnits_85 : decode b_Se_moveUnits 85 = .ok (.iastore, 1) := by decide +kernel
theorem d_Se_moveUnits_86 : decode b_Se_moveUnits 86 = .ok (.iinc 2 1, 3) := by decide +kernel
theorem d_Se_moveUnits_89 : decode b_Se_moveUnits 89 = .ok (.goto (-83), 3) := by decide +kernel
theorem d_Se_moveUnits_92 : decode b_Se_moveUnits 92 = .ok (.iconst 0, 1) := by decide +kernel
theorem d_Se_moveUnits_93 : decode b_Se_moveUnits 93 = .ok (.istore_n 2, 1) := by decide +kernel
theorem d_Se_moveUnits_94 : decode b_Se_moveUnits 94 = .ok (.iload_n 2, 1) := by decide +kernel
theorem d_Se_moveUnits_95 : decode b_Se_moveUnits 95 = .ok (.aload_n 0, 1) := by decide +kernel
theorem d_Se_moveUnits_96 : decode b_Se_moveUnits 96 = .ok (.getfield 27, 3) := by decide +kernel
theorem d_Se_moveUnits_99 : decode b_Se_moveUnits 99 = .ok (.getfield 93, 3) := by decide +kernel
theorem d_Se_moveUnits_102 : decode b_Se_moveUnits 102 = .ok (.if_icmp .ge 72, 3) := by decide +kernel
theorem d_Se_moveUnits_105 : decode b_Se_moveUnits 105 = .ok (.aload_n 0, 1) := by decide +kernel
theorem d_Se_moveUnits_106 : decode b_Se_moveUnits 106 = .ok (.getfield 63, 3) := by decide +kernel
theorem d_Se_moveUnits_109 : decode b_Se_moveUnits 109 = .ok (.aload_n 0, 1) := by decide +kernel
theorem d_Se_moveUnits_110 : decode b_Se_moveUnits 110 = .ok (.getfield 66, 3) := by decide +kernel
theorem d_Se_moveUnits_113 : decode b_Se_moveUnits 113 = .ok (.iand, 1) := by decide +kernel
theorem d_Se_moveUnits_114 : decode b_Se_moveUnits 114 = .ok (.iload_n 2, 1) := by decide +kernel
theorem d_Se_moveUnits_115 : decode b_Se_moveUnits 115 = .ok (.invokestatic 83, 3) := by decide +kernel
theorem d_Se_moveUnits_118 : decode b_Se_moveUnits 118 = .ok (.ifCond .eq 50, 3) := by decide +kernel
theorem d_Se_moveUnits_121 : decode b_Se_moveUnits 121 = .ok (.aload_n 0, 1) := by decide +kernel
theorem d_Se_moveUnits_122 : decode b_Se_moveUnits 122 = .ok (.getfield 31, 3) := by decide +kernel
theorem d_Se_moveUnits_125 : decode b_Se_moveUnits 125 = .ok (.getfield 105, 3) := by decide +kernel
theorem d_Se_moveUnits_128 : decode b_Se_moveUnits 128 = .ok (.iload_n 2, 1) := by decide +kernel
theorem d_Se_moveUnits_129 : decode b_Se_moveUnits 129 = .ok (.iaload, 1) := by decide +kernel
theorem d_Se_moveUnits_130 : decode b_Se_moveUnits 130 = .ok (.istore_n 3, 1) := by decide +kernel
theorem d_Se_moveUnits_131 : decode b_Se_moveUnits 131 = .ok (.aload_n 0, 1) := by decide +kernel
theorem d_Se_moveUnits_132 : decode b_Se_moveUnits 132 = .ok (.getfield 31, 3) := by decide +kernel
theorem d_Se_moveUnits_135 : decode b_Se_moveUnits 135 = .ok (.getfield 98, 3) := by decide +kernel
theorem d_Se_moveUnits_138 : decode b_Se_moveUnits 138 = .ok (.iload_n 3, 1) := by decide +kernel
theorem d_Se_moveUnits_139 : decode b_Se_moveUnits 139 = .ok (.aload_n 0, 1) := by decide +kernel
theorem d_Se_moveUnits_140 : decode b_Se_moveUnits 140 = .ok (.getfield 24, 3) := by decide +kernel
theorem d_Se_moveUnits_143 : decode b_Se_moveUnits 143 = .ok (.iload_n 2, 1) := by decide +kernel
theorem d_Se_moveUnits_144 : decode b_Se_moveUnits 144 = .ok (.iaload, 1) := by decide +kernel
theorem d_Se_moveUnits_145 : decode b_Se_moveUnits 145 = .ok (.iastore, 1) := by decide +kernel
theorem d_Se_moveUnits_146 : decode b_Se_moveUnits 146 = .ok (.aload_n 1, 1) := by decide +kernel
theorem d_Se_moveUnits_147 : decode b_Se_moveUnits 147 = .ok (.getfield 108, 3) := by decide +kernel
theorem d_Se_moveUnits_150 : decode b_Se_moveUnits 150 = .ok (.iload_n 3, 1) := by decide +kernel
theorem d_Se_moveUnits_151 : decode b_Se_moveUnits 151 = .ok (.aload_n 0, 1) := by decide +kernel
theorem d_Se_moveUnits_152 : decode b_Se_moveUnits 152 = .ok (.getfield 111, 3) := by decide +kernel
theorem d_Se_moveUnits_155 : decode b_Se_moveUnits 155 = .ok (.iload_n 2, 1) := by decide +kernel
theorem d_Se_moveUnits_156 : decode b_Se_moveUnits 156 = .ok (.invokestatic 83, 3) := by decide +kernel
theorem d_Se_moveUnits_159 : decode b_Se_moveUnits 159 = .ok (.ifCond .eq 7, 3) := by decide +kernel
theorem d_Se_moveUnits_162 : decode b_Se_moveUnits 162 = .ok (.iconst (-1), 1) := by decide +kernel
theorem d_Se_moveUnits_163 : decode b_Se_moveUnits 163 = .ok (.goto 4, 3) := by decide +kernel
theorem d_Se_moveUnits_166 : decode b_Se_moveUnits 166 = .ok (.iload_n 2, 1) := by decide +kernel
theorem d_Se_moveUnits_167 : decode b_Se_moveUnits 167 = .ok (.iastore, 1) := by decide +kernel
theorem d_Se_moveUnits_168 : decode b_Se_moveUnits 168 = .ok (.iinc 2 1, 3) := by decide +kernel
theorem d_Se_moveUnits_171 : decode b_Se_moveUnits 171 = .ok (.goto (-77), 3) := by decide +kernel
theorem d_Se_moveUnits_174 : decode b_Se_moveUnits 174 = .ok (.aload_n 1, 1) := by decide +kernel
theorem d_Se_moveUnits_175 : decode b_Se_moveUnits 175 = .ok (.aload_n 0, 1) := by decide +kernel
theorem d_Se_moveUnits_176 : decode b_Se_moveUnits 176 = .ok (.invokevirtual 114, 3) := by decide +kernel
theorem d_Se_moveUnits_179 : decode b_Se_moveUnits 179 = .ok (.putfield 118, 3) := by decide +kernel
theorem d_Se_moveUnits_182 : decode b_Se_moveUnits 182 = .ok (.return_, 1) := by decide +kernel
theorem wd_246 : (Cond.code ({ cls := "SheetWar$Aside", name := "clear", desc := "()V" } : MethodName) prog_2_method_2_code (1 : Nat) (Option.none : Option FieldType)) ∈ TB := tb_t 246 (by decide +kernel) (by decide +kernel)
theorem wd_616 : (Cond.methodLink "SheetWar$Settling" (90 : Nat) ({ cls := "SheetWar$Aside", name := "clear", desc := "()V" } : MethodName)) ∈ TB := tb_t 616 (by decide +kernel) (by decide +kernel)
theorem wd_244 : (Cond.instanceMethod ({ cls := "SheetWar$Aside", name := "clear", desc := "()V" } : MethodName)) ∈ TB := tb_t 244 (by decide +kernel) (by decide +kernel)
theorem wd_245 : (Cond.selects "SheetWar$Aside" ({ cls := "SheetWar$Aside", name := "clear", desc := "()V" } : MethodName) ({ cls := "SheetWar$Aside", name := "clear", desc := "()V" } : MethodName)) ∈ TB := tb_t 245 (by decide +kernel) (by decide +kernel)
theorem wd_620 : (Cond.code ({ cls := "SheetWar$Settling", name := "contestedAreas", desc := "()I" } : MethodName) prog_4_method_7_code (3 : Nat) (Option.some FieldType.int)) ∈ TB := tb_t 620 (by decide +kernel) (by decide +kernel)
theorem wd_617 : (Cond.methodLink "SheetWar$Settling" (114 : Nat) ({ cls := "SheetWar$Settling", name := "contestedAreas", desc := "()I" } : MethodName)) ∈ TB := tb_t 617 (by decide +kernel) (by decide +kernel)
theorem wd_619 : (Cond.instanceMethod ({ cls := "SheetWar$Settling", name := "contestedAreas", desc := "()I" } : MethodName)) ∈ TB := tb_t 619 (by decide +kernel) (by decide +kernel)
theorem wd_171 : (Cond.fieldLink "SheetWar$Settling" (118 : Nat) "SheetWar$Aside" "contested" "I") ∈ TB := tb_t 171 (by decide +kernel) (by decide +kernel)
theorem wd_66 : (Cond.fieldLink "SheetWar$Settling" (98 : Nat) "SheetWar$Sheet" "units" "[I") ∈ TB := tb_t 66 (by decide +kernel) (by decide +kernel)
theorem wd_166 : (Cond.fieldLink "SheetWar$Settling" (108 : Nat) "SheetWar$Aside" "origins" "[I") ∈ TB := tb_t 166 (by decide +kernel) (by decide +kernel)
theorem wd_163 : (Cond.fieldLink "SheetWar$Settling" (104 : Nat) "SheetWar$Aside" "units" "[I") ∈ TB := tb_t 163 (by decide +kernel) (by decide +kernel)
theorem wp_26 : Cond.selects "SheetWar$Settling" ⟨"SheetWar$Settling", "contestedAreas", "()I"⟩ ⟨"SheetWar$Settling", "contestedAreas", "()I"⟩ ∈ TB := tb_p 26 (by decide +kernel) (by decide +kernel)
set_option maxHeartbeats 4000000 in
set_option maxRecDepth 100000 in
theorem c_Se_moveUnits (l : Launch) (D : va_G) (cI cZ cJ cS : ClassId) (aT : Nat) (ceT : Cell) (sz : Nat) (h0 qm qs q1 q2 q3 q4 q5 : Nat) (St Mv Sm Ho Su Op Sd Od Sp Oq : Nat → Bool) (ha : Nat) (qh qn n : Nat) (S Ce : Nat → Bool) (tn : Int32) (qu qo qx qy qr qw : Nat) (au ao ag : Nat) (ac : Int32) (X : Nat → Nat) (fu fl ga go gg : Nat → Int32) (hX12 : ∀ j, X j < 12) (hn : n ≤ 12) : Met l y_Se_moveUnits w_Se_moveUnits ({ frames := 2, cells := 0, slots := 0, locals := 43 }) (tH D cI cZ cJ cS aT ceT [.ref h0, .ref ha] sz [(h0, .inr (2, [.ref qm, .ref qs, .int (mI St), .int (mI Mv), .int (mI Sm), .int (mI Ho), .ref q1, .ref q2, .ref q3, .ref q4, .int (mI Su), .int (mI Op), .int (mI Sd), .int (mI Od), .int (mI Sp), .int (mI Oq), .ref q5])), (qm, .inr (4, [.int (nI n), .int (mI S), .int (mI Ce), .ref qh, .ref qn])), (qs, .inr (3, [.int tn, .ref qu, .ref qo, .ref qx, .ref qy, .ref qr, .ref qw])), (qx, .inl (cI, 12, .inl (fun j => nI (X j)))), (qu, .inl (cI, 12, .inl fu)), (q5, .inl (cI, 12, .inl fl)), (ha, .inr (0, [.ref au, .ref ao, .ref ag, .int ac])), (au, .inl (cI, 12, .inl ga)), (ao, .inl (cI, 12, .inl go)), (ag, .inl (cI, 12, .inl gg))]) (va_Qv (fun _ : Unit => True) (fun _ t => tB D (va_A [(h0, .inr (2, [.ref qm, .ref qs, .int (mI St), .int (mI Mv), .int (mI Sm), .int (mI Ho), .ref q1, .ref q2, .ref q3, .ref q4, .int (mI Su), .int (mI Op), .int (mI Sd), .int (mI Od), .int (mI Sp), .int (mI Oq), .ref q5])), (qm, .inr (4, [.int (nI n), .int (mI S), .int (mI Ce), .ref qh, .ref qn])), (qs, .inr (3, [.int tn, .ref qu, .ref qo, .ref qx, .ref qy, .ref qr, .ref qw])), (qx, .inl (cI, 12, .inl (fun j => nI (X j)))), (qu, .inl (cI, 12, .inl fu)), (q5, .inl (cI, 12, .inl fl)), (ha, .inr (0, [.ref au, .ref ao, .ref ag, .int ac])), (au, .inl (cI, 12, .inl ga)), (ao, .inl (cI, 12, .inl go)), (ag, .inl (cI, 12, .inl gg))] sz) [(h0, .inr (2, [.ref qm, .ref qs, .int (mI St), .int (mI Mv), .int (mI Sm), .int (mI Ho), .ref q1, .ref q2, .ref q3, .ref q4, .int (mI Su), .int (mI Op), .int (mI Sd), .int (mI Od), .int (mI Sp), .int (mI Oq), .ref q5])), (qm, .inr (4, [.int (nI n), .int (mI S), .int (mI Ce), .ref qh, .ref qn])), (qs, .inr (3, [.int tn, .ref qu, .ref qo, .ref qx, .ref qy, .ref qr, .ref qw])), (qx, .inl (cI, 12, .inl (fun j => nI (X j)))), (qu, .inl (cI, 12, .inl (gpU (fun j => Su j && Mv j) X (mxI fu fl n) (mxI (fun j => if (Sd j || (Su j && Mv j)) = true then -1 else fu j) fu n) n))), (q5, .inl (cI, 12, .inl (mxI fu fl n))), (ha, .inr (0, [.ref au, .ref ao, .ref ag, .int (mI (ctS X (ctC Mv Sp Su X (gpU (fun j => Su j && Mv j) X (mxI fu fl n) (mxI (fun j => if (Sd j || (Su j && Mv j)) = true then -1 else fu j) fu n) n)) n))])), (au, .inl (cI, 12, .inl (mxI (fun j => if Sd j = true then fu j else -1) (fun _ => (-1)) n))), (ao, .inl (cI, 12, .inl (gpU (fun j => Su j && Mv j) X (fun j => if Sm j = true then -1 else nI j) (fun _ => (-1)) n))), (ag, .inl (cI, 12, .inl (fun _ => (-1))))] t) (va_A [(h0, .inr (2, [.ref qm, .ref qs, .int (mI St), .int (mI Mv), .int (mI Sm), .int (mI Ho), .ref q1, .ref q2, .ref q3, .ref q4, .int (mI Su), .int (mI Op), .int (mI Sd), .int (mI Od), .int (mI Sp), .int (mI Oq), .ref q5])), (qm, .inr (4, [.int (nI n), .int (mI S), .int (mI Ce), .ref qh, .ref qn])), (qs, .inr (3, [.int tn, .ref qu, .ref qo, .ref qx, .ref qy, .ref qr, .ref qw])), (qx, .inl (cI, 12, .inl (fun j => nI (X j)))), (qu, .inl (cI, 12, .inl fu)), (q5, .inl (cI, 12, .inl fl)), (ha, .inr (0, [.ref au, .ref ao, .ref ag, .int ac])), (au, .inl (cI, 12, .inl ga)), (ao, .inl (cI, 12, .inl go)), (ag, .inl (cI, 12, .inl gg))] sz)) 0 0 (va_A [(h0, .inr (2, [.ref qm, .ref qs, .int (mI St), .int (mI Mv), .int (mI Sm), .int (mI Ho), .ref q1, .ref q2, .ref q3, .ref q4, .int (mI Su), .int (mI Op), .int (mI Sd), .int (mI Od), .int (mI Sp), .int (mI Oq), .ref q5])), (qm, .inr (4, [.int (nI n), .int (mI S), .int (mI Ce), .ref qh, .ref qn])), (qs, .inr (3, [.int tn, .ref qu, .ref qo, .ref qx, .ref qy, .ref qr, .ref qw])), (qx, .inl (cI, 12, .inl (fun j => nI (X j)))), (qu, .inl (cI, 12, .inl fu)), (q5, .inl (cI, 12, .inl fl)), (ha, .inr (0, [.ref au, .ref ao, .ref ag, .int ac])), (au, .inl (cI, 12, .inl ga)), (ao, .inl (cI, 12, .inl go)), (ag, .inl (cI, 12, .inl gg))] sz) := by
  refine Met.ofW (cc := b_Se_moveUnits) (maxL := 4) (ret := none) (by decide) rfl ?_
  intro p e s m args below meth c s₁ B hml hv
  obtain ⟨rfl, hsz, hP, hK, hD0, hX⟩ := hv
  have hx := B.exec
  have hb := B.bytes
  have hr := B.returns
  have hts0 := atoms_spec (ws := w_Se_moveUnits) B.pre
  have hts : ∀ w ∈ TB, w.before _ s = true := fun w h => hts0 w (List.mem_cons_of_mem _ h)
  have hown : s.vm.findClass R_Se = some m.cls := findClass_of_methodNamed B.named
  have hlocks := B.notSynchronized
  subst hsz
  have hXl := tx_lt hX
  have hXn := tx_far hP hX
  have hD := hD0.self (sz := s.heap.size)
  generalize hAe : va_A [(h0, .inr (2, [.ref qm, .ref qs, .int (mI St), .int (mI Mv), .int (mI Sm), .int (mI Ho), .ref q1, .ref q2, .ref q3, .ref q4, .int (mI Su), .int (mI Op), .int (mI Sd), .int (mI Od), .int (mI Sp), .int (mI Oq), .ref q5])), (qm, .inr (4, [.int (nI n), .int (mI S), .int (mI Ce), .ref qh, .ref qn])), (qs, .inr (3, [.int tn, .ref qu, .ref qo, .ref qx, .ref qy, .ref qr, .ref qw])), (qx, .inl (cI, 12, .inl (fun j => nI (X j)))), (qu, .inl (cI, 12, .inl fu)), (q5, .inl (cI, 12, .inl fl)), (ha, .inr (0, [.ref au, .ref ao, .ref ag, .int ac])), (au, .inl (cI, 12, .inl ga)), (ao, .inl (cI, 12, .inl go)), (ag, .inl (cI, 12, .inl gg))] s.heap.size = A at hD hXn ⊢
  have hA : ∀ q : Nat, s.heap.size ≤ q → A q := fun q h => by rw [← hAe]; exact Or.inr h
  have hS : va_S A s.heap s.heap [] := va_S.rf
  have hXH : s.heap[aT]? = s.heap[aT]? := rfl
  have hl := lv_entry ([.ref h0, .ref ha]) (n := 4) (Nat.le_of_ble_eq_true rfl)
  rw [lg_entry_eq]
  generalize (lg_sl ([.ref h0, .ref ha]) ++ List.replicate (4 - (lg_sl ([.ref h0, .ref ha])).length) Slot.unset).toArray = ls at hl ⊢
  have hl : lv_has ls 4 [(0, .ref h0), (1, .ref ha)] := hl
  refine lv_aload_n hx hb d_Se_moveUnits_0 rfl (lv_at hl 1 rfl) ?_
  have hPc := hP.sub (ws' := [(ha, .inr (0, [.ref au, .ref ao, .ref ag, .int ac])), (au, .inl (cI, 12, .inl ga)), (ao, .inl (cI, 12, .inl go)), (ag, .inl (cI, 12, .inl gg))]) [6, 7, 8, 9] rfl
  have hDc := hD.sub (ws' := [(ha, .inr (0, [.ref au, .ref ao, .ref ag, .int ac])), (au, .inl (cI, 12, .inl ga)), (ao, .inl (cI, 12, .inl go)), (ag, .inl (cI, 12, .inl gg))]) [6, 7, 8, 9] (by decide) rfl
  have hFc := va_free (wc := [(ha, .inr (0, [.ref au, .ref ao, .ref ag, .int ac])), (au, .inl (cI, 12, .inl ga)), (ao, .inl (cI, 12, .inl go)), (ag, .inl (cI, 12, .inl gg))]) hD hS hA [6, 7, 8, 9] rfl
  refine va_callv (va_runV (As := []) (rest := []) ⟨hx, hb, hml, hown, hts⟩ (c_As_clear l D cI cZ cJ cS aT ceT s.heap.size ha au ao ag ac ga go gg ) (cwV 0 hts (tb_4 wd_616 wd_244 wd_245 wd_6 (tb_c wd_246)) rfl rfl rfl ⟨rfl, by decide, by decide, by decide +kernel⟩ ⟨Nat.le_of_ble_eq_true rfl, Nat.le_of_ble_eq_true rfl⟩) (tH_V hK hX (hS.2.1 aT hXl hXn) hPc hDc (q := 0) rfl rfl) rfl rfl hl.1 rfl (lv_room (Nat.le_of_ble_eq_true rfl)) d_Se_moveUnits_1 ⟨Nat.le_of_ble_eq_true rfl, Nat.le_of_ble_eq_true rfl⟩) hS (fun q _ h => hFc q h) hFc (fun u t H1 locs ht hvm h9 hB hz1 hk1 hS => ?_)
  obtain ⟨hP1, hD1⟩ := hB
  rw [ht] at hP1
  obtain ⟨hP, hD⟩ := va_join (wr := [(h0, .inr (2, [.ref qm, .ref qs, .int (mI St), .int (mI Mv), .int (mI Sm), .int (mI Ho), .ref q1, .ref q2, .ref q3, .ref q4, .int (mI Su), .int (mI Op), .int (mI Sd), .int (mI Od), .int (mI Sp), .int (mI Oq), .ref q5])), (qm, .inr (4, [.int (nI n), .int (mI S), .int (mI Ce), .ref qh, .ref qn])), (qs, .inr (3, [.int tn, .ref qu, .ref qo, .ref qx, .ref qy, .ref qr, .ref qw])), (qx, .inl (cI, 12, .inl (fun j => nI (X j)))), (qu, .inl (cI, 12, .inl fu)), (q5, .inl (cI, 12, .inl fl))]) (w1 := [(ha, .inr (0, [.ref au, .ref ao, .ref ag, .int 0])), (au, .inl (cI, 12, .inl (fun _ => (-1)))), (ao, .inl (cI, 12, .inl (fun _ => (-1)))), (ag, .inl (cI, 12, .inl (fun _ => (-1))))]) hP hD [6, 7, 8, 9] [0, 1, 2, 3, 4, 5] rfl rfl (by decide) (by decide) hk1 hFc hP1 hD1
  generalize H1 = H at hP hS ⊢
  have hP : va_P D vwCl [(h0, .inr (2, [.ref qm, .ref qs, .int (mI St), .int (mI Mv), .int (mI Sm), .int (mI Ho), .ref q1, .ref q2, .ref q3, .ref q4, .int (mI Su), .int (mI Op), .int (mI Sd), .int (mI Od), .int (mI Sp), .int (mI Oq), .ref q5])), (qm, .inr (4, [.int (nI n), .int (mI S), .int (mI Ce), .ref qh, .ref qn])), (qs, .inr (3, [.int tn, .ref qu, .ref qo, .ref qx, .ref qy, .ref qr, .ref qw])), (qx, .inl (cI, 12, .inl (fun j => nI (X j)))), (qu, .inl (cI, 12, .inl fu)), (q5, .inl (cI, 12, .inl fl)), (ha, .inr (0, [.ref au, .ref ao, .ref ag, .int 0])), (au, .inl (cI, 12, .inl (fun _ => (-1)))), (ao, .inl (cI, 12, .inl (fun _ => (-1)))), (ag, .inl (cI, 12, .inl (fun _ => (-1))))] H := hP
  have hD : va_D A [(h0, .inr (2, [.ref qm, .ref qs, .int (mI St), .int (mI Mv), .int (mI Sm), .int (mI Ho), .ref q1, .ref q2, .ref q3, .ref q4, .int (mI Su), .int (mI Op), .int (mI Sd), .int (mI Od), .int (mI Sp), .int (mI Oq), .ref q5])), (qm, .inr (4, [.int (nI n), .int (mI S), .int (mI Ce), .ref qh, .ref qn])), (qs, .inr (3, [.int tn, .ref qu, .ref qo, .ref qx, .ref qy, .ref qr, .ref qw])), (qx, .inl (cI, 12, .inl (fun j => nI (X j)))), (qu, .inl (cI, 12, .inl fu)), (q5, .inl (cI, 12, .inl fl)), (ha, .inr (0, [.ref au, .ref ao, .ref ag, .int 0])), (au, .inl (cI, 12, .inl (fun _ => (-1)))), (ao, .inl (cI, 12, .inl (fun _ => (-1)))), (ag, .inl (cI, 12, .inl (fun _ => (-1))))] := hD
  refine lv_iconst (v := 0) hx hb d_Se_moveUnits_4 (by decide) ?_
  refine lv_istore_n (lv' := [(2, .int 0), (0, .ref h0), (1, .ref ha)]) hx hb d_Se_moveUnits_5 rfl hl (by decide) rfl (fun ls hl => ?_)
  have loop : ∀ (k i : Nat) (ls : Array Slot) (H : Heap) (locs : List Loc), i + k = n → lv_has ls 4 [(2, .int (nI i)), (0, .ref h0), (1, .ref ha)] → va_P D vwCl [(h0, .inr (2, [.ref qm, .ref qs, .int (mI St), .int (mI Mv), .int (mI Sm), .int (mI Ho), .ref q1, .ref q2, .ref q3, .ref q4, .int (mI Su), .int (mI Op), .int (mI Sd), .int (mI Od), .int (mI Sp), .int (mI Oq), .ref q5])), (qm, .inr (4, [.int (nI n), .int (mI S), .int (mI Ce), .ref qh, .ref qn])), (qs, .inr (3, [.int tn, .ref qu, .ref qo, .ref qx, .ref qy, .ref qr, .ref qw])), (qx, .inl (cI, 12, .inl (fun j => nI (X j)))), (qu, .inl (cI, 12, .inl (mxI (fun j => if (Sd j || (Su j && Mv j)) = true then -1 else fu j) fu i))), (q5, .inl (cI, 12, .inl (mxI fu fl i))), (ha, .inr (0, [.ref au, .ref ao, .ref ag, .int 0])), (au, .inl (cI, 12, .inl (mxI (fun j => if Sd j = true then fu j else -1) (fun _ => (-1)) i))), (ao, .inl (cI, 12, .inl (fun _ => (-1)))), (ag, .inl (cI, 12, .inl (fun _ => (-1))))] H → va_D A [(h0, .inr (2, [.ref qm, .ref qs, .int (mI St), .int (mI Mv), .int (mI Sm), .int (mI Ho), .ref q1, .ref q2, .ref q3, .ref q4, .int (mI Su), .int (mI Op), .int (mI Sd), .int (mI Od), .int (mI Sp), .int (mI Oq), .ref q5])), (qm, .inr (4, [.int (nI n), .int (mI S), .int (mI Ce), .ref qh, .ref qn])), (qs, .inr (3, [.int tn, .ref qu, .ref qo, .ref qx, .ref qy, .ref qr, .ref qw])), (qx, .inl (cI, 12, .inl (fun j => nI (X j)))), (qu, .inl (cI, 12, .inl (mxI (fun j => if (Sd j || (Su j && Mv j)) = true then -1 else fu j) fu i))), (q5, .inl (cI, 12, .inl (mxI fu fl i))), (ha, .inr (0, [.ref au, .ref ao, .ref ag, .int 0])), (au, .inl (cI, 12, .inl (mxI (fun j => if Sd j = true then fu j else -1) (fun _ => (-1)) i))), (ao, .inl (cI, 12, .inl (fun _ => (-1)))), (ag, .inl (cI, 12, .inl (fun _ => (-1))))] → va_S A s.heap H locs → W p l e (headSpec w_Se_moveUnits ({ frames := 2, cells := 0, slots := 0, locals := 43 })).room s m ([.ref h0, .ref ha]).toArray below meth c H locs 0 0 (MQ below (va_Qv (fun _ : Unit => True) (fun _ t => tB D A [(h0, .inr (2, [.ref qm, .ref qs, .int (mI St), .int (mI Mv), .int (mI Sm), .int (mI Ho), .ref q1, .ref q2, .ref q3, .ref q4, .int (mI Su), .int (mI Op), .int (mI Sd), .int (mI Od), .int (mI Sp), .int (mI Oq), .ref q5])), (qm, .inr (4, [.int (nI n), .int (mI S), .int (mI Ce), .ref qh, .ref qn])), (qs, .inr (3, [.int tn, .ref qu, .ref qo, .ref qx, .ref qy, .ref qr, .ref qw])), (qx, .inl (cI, 12, .inl (fun j => nI (X j)))), (qu, .inl (cI, 12, .inl (gpU (fun j => Su j && Mv j) X (mxI fu fl n) (mxI (fun j => if (Sd j || (Su j && Mv j)) = true then -1 else fu j) fu n) n))), (q5, .inl (cI, 12, .inl (mxI fu fl n))), (ha, .inr (0, [.ref au, .ref ao, .ref ag, .int (mI (ctS X (ctC Mv Sp Su X (gpU (fun j => Su j && Mv j) X (mxI fu fl n) (mxI (fun j => if (Sd j || (Su j && Mv j)) = true then -1 else fu j) fu n) n)) n))])), (au, .inl (cI, 12, .inl (mxI (fun j => if Sd j = true then fu j else -1) (fun _ => (-1)) n))), (ao, .inl (cI, 12, .inl (gpU (fun j => Su j && Mv j) X (fun j => if Sm j = true then -1 else nI j) (fun _ => (-1)) n))), (ag, .inl (cI, 12, .inl (fun _ => (-1))))] t) A) ([.ref h0, .ref ha]).toArray s 0 0 A) (F0 m 6 ls []) := by
    intro k
    induction k with
    | zero =>
      intro i ls H locs hi hl hP hD hS
      have hie : i = n := by omega
      rw [hie] at hl hP hD
      refine lv_iload_n hx hb d_Se_moveUnits_6 rfl (lv_at hl 0 rfl) ?_
      refine lv_aload_n hx hb d_Se_moveUnits_7 rfl (lv_at hl 1 rfl) ?_
      refine va_get (D := D) (ci := 2) (v := .ref qm) (C := R_Se) (T := T_Se) (N := 17) hx hb hts hin_Se hown hK hP 0 rfl rfl 0 (by decide) (hts _ wd_103) (fun _ h9 => h9) rfl d_Se_moveUnits_8 ?_
      refine va_get (D := D) (ci := 4) (v := .int (nI n)) (C := R_Wm) (T := T_Wm) (N := 5) hx hb hts hin_Wm hown hK hP 1 rfl rfl 0 (by decide) (hts _ wd_33) (fun _ h9 => h9) rfl d_Se_moveUnits_11 ?_
      refine lv_icmp_ge (tgt := 92) hx hb d_Se_moveUnits_14 (by decide) (fun _ => ?_) (fun h0 => absurd (Int32.le_refl _) h0)
      refine lv_iconst (v := 0) hx hb d_Se_moveUnits_92 (by decide) ?_
      refine lv_istore_n (lv' := [(2, .int 0), (0, .ref h0), (1, .ref ha)]) hx hb d_Se_moveUnits_93 rfl hl (by decide) rfl (fun ls hl => ?_)
      have loop2 : ∀ (k i : Nat) (ls : Array Slot) (H : Heap) (locs : List Loc), i + k = n → lv_has ls 4 [(2, .int (nI i)), (0, .ref h0), (1, .ref ha)] → va_P D vwCl [(h0, .inr (2, [.ref qm, .ref qs, .int (mI St), .int (mI Mv), .int (mI Sm), .int (mI Ho), .ref q1, .ref q2, .ref q3, .ref q4, .int (mI Su), .int (mI Op), .int (mI Sd), .int (mI Od), .int (mI Sp), .int (mI Oq), .ref q5])), (qm, .inr (4, [.int (nI n), .int (mI S), .int (mI Ce), .ref qh, .ref qn])), (qs, .inr (3, [.int tn, .ref qu, .ref qo, .ref qx, .ref qy, .ref qr, .ref qw])), (qx, .inl (cI, 12, .inl (fun j => nI (X j)))), (qu, .inl (cI, 12, .inl (gpU (fun j => Su j && Mv j) X (mxI fu fl n) (mxI (fun j => if (Sd j || (Su j && Mv j)) = true then -1 else fu j) fu n) i))), (q5, .inl (cI, 12, .inl (mxI fu fl n))), (ha, .inr (0, [.ref au, .ref ao, .ref ag, .int 0])), (au, .inl (cI, 12, .inl (mxI (fun j => if Sd j = true then fu j else -1) (fun _ => (-1)) n))), (ao, .inl (cI, 12, .inl (gpU (fun j => Su j && Mv j) X (fun j => if Sm j = true then -1 else nI j) (fun _ => (-1)) i))), (ag, .inl (cI, 12, .inl (fun _ => (-1))))] H → va_D A [(h0, .inr (2, [.ref qm, .ref qs, .int (mI St), .int (mI Mv), .int (mI Sm), .int (mI Ho), .ref q1, .ref q2, .ref q3, .ref q4, .int (mI Su), .int (mI Op), .int (mI Sd), .int (mI Od), .int (mI Sp), .int (mI Oq), .ref q5])), (qm, .inr (4, [.int (nI n), .int (mI S), .int (mI Ce), .ref qh, .ref qn])), (qs, .inr (3, [.int tn, .ref qu, .ref qo, .ref qx, .ref qy, .ref qr, .ref qw])), (qx, .inl (cI, 12, .inl (fun j => nI (X j)))), (qu, .inl (cI, 12, .inl (gpU (fun j => Su j && Mv j) X (mxI fu fl n) (mxI (fun j => if (Sd j || (Su j && Mv j)) = true then -1 else fu j) fu n) i))), (q5, .inl (cI, 12, .inl (mxI fu fl n))), (ha, .inr (0, [.ref au, .ref ao, .ref ag, .int 0])), (au, .inl (cI, 12, .inl (mxI (fun j => if Sd j = true then fu j else -1) (fun _ => (-1)) n))), (ao, .inl (cI, 12, .inl (gpU (fun j => Su j && Mv j) X (fun j => if Sm j = true then -1 else nI j) (fun _ => (-1)) i))), (ag, .inl (cI, 12, .inl (fun _ => (-1))))] → va_S A s.heap H locs → W p l e (headSpec w_Se_moveUnits ({ frames := 2, cells := 0, slots := 0, locals := 43 })).room s m ([.ref h0, .ref ha]).toArray below meth c H locs 0 0 (MQ below (va_Qv (fun _ : Unit => True) (fun _ t => tB D A [(h0, .inr (2, [.ref qm, .ref qs, .int (mI St), .int (mI Mv), .int (mI Sm), .int (mI Ho), .ref q1, .ref q2, .ref q3, .ref q4, .int (mI Su), .int (mI Op), .int (mI Sd), .int (mI Od), .int (mI Sp), .int (mI Oq), .ref q5])), (qm, .inr (4, [.int (nI n), .int (mI S), .int (mI Ce), .ref qh, .ref qn])), (qs, .inr (3, [.int tn, .ref qu, .ref qo, .ref qx, .ref qy, .ref qr, .ref qw])), (qx, .inl (cI, 12, .inl (fun j => nI (X j)))), (qu, .inl (cI, 12, .inl (gpU (fun j => Su j && Mv j) X (mxI fu fl n) (mxI (fun j => if (Sd j || (Su j && Mv j)) = true then -1 else fu j) fu n) n))), (q5, .inl (cI, 12, .inl (mxI fu fl n))), (ha, .inr (0, [.ref au, .ref ao, .ref ag, .int (mI (ctS X (ctC Mv Sp Su X (gpU (fun j => Su j && Mv j) X (mxI fu fl n) (mxI (fun j => if (Sd j || (Su j && Mv j)) = true then -1 else fu j) fu n) n)) n))])), (au, .inl (cI, 12, .inl (mxI (fun j => if Sd j = true then fu j else -1) (fun _ => (-1)) n))), (ao, .inl (cI, 12, .inl (gpU (fun j => Su j && Mv j) X (fun j => if Sm j = true then -1 else nI j) (fun _ => (-1)) n))), (ag, .inl (cI, 12, .inl (fun _ => (-1))))] t) A) ([.ref h0, .ref ha]).toArray s 0 0 A) (F0 m 94 ls []) := by
        intro k
        induction k with
        | zero =>
          intro i ls H locs hi hl hP hD hS
          have hie : i = n := by omega
          rw [hie] at hl hP hD
          refine lv_iload_n hx hb d_Se_moveUnits_94 rfl (lv_at hl 0 rfl) ?_
          refine lv_aload_n hx hb d_Se_moveUnits_95 rfl (lv_at hl 1 rfl) ?_
          refine va_get (D := D) (ci := 2) (v := .ref qm) (C := R_Se) (T := T_Se) (N := 17) hx hb hts hin_Se hown hK hP 0 rfl rfl 0 (by decide) (hts _ wd_103) (fun _ h9 => h9) rfl d_Se_moveUnits_96 ?_
          refine va_get (D := D) (ci := 4) (v := .int (nI n)) (C := R_Wm) (T := T_Wm) (N := 5) hx hb hts hin_Wm hown hK hP 1 rfl rfl 0 (by decide) (hts _ wd_33) (fun _ h9 => h9) rfl d_Se_moveUnits_99 ?_
          refine lv_icmp_ge (tgt := 174) hx hb d_Se_moveUnits_102 (by decide) (fun _ => ?_) (fun h0 => absurd (Int32.le_refl _) h0)
          refine lv_aload_n hx hb d_Se_moveUnits_174 rfl (lv_at hl 2 rfl) ?_
          refine lv_aload_n hx hb d_Se_moveUnits_175 rfl (lv_at hl 1 rfl) ?_
          have hPc := hP.sub (ws' := [(h0, .inr (2, [.ref qm, .ref qs, .int (mI St), .int (mI Mv), .int (mI Sm), .int (mI Ho), .ref q1, .ref q2, .ref q3, .ref q4, .int (mI Su), .int (mI Op), .int (mI Sd), .int (mI Od), .int (mI Sp), .int (mI Oq), .ref q5])), (qm, .inr (4, [.int (nI n), .int (mI S), .int (mI Ce), .ref qh, .ref qn])), (qs, .inr (3, [.int tn, .ref qu, .ref qo, .ref qx, .ref qy, .ref qr, .ref qw])), (qx, .inl (cI, 12, .inl (fun j => nI (X j)))), (qu, .inl (cI, 12, .inl (gpU (fun j => Su j && Mv j) X (mxI fu fl n) (mxI (fun j => if (Sd j || (Su j && Mv j)) = true then -1 else fu j) fu n) n)))]) [0, 1, 2, 3, 4] rfl
          refine vp_callSi (va_Run.run (va_runV (As := []) (rest := [.ref ha]) ⟨hx, hb, hml, hown, hts⟩ (c_Se_contested l D cI cZ cJ cS aT ceT  h0 qm qs q1 q2 q3 q4 q5 St Mv Sm Ho Su Op Sd Od Sp Oq qh qn n S Ce tn qu qo qx qy qr qw X (gpU (fun j => Su j && Mv j) X (mxI fu fl n) (mxI (fun j => if (Sd j || (Su j && Mv j)) = true then -1 else fu j) fu n) n) hX12 hn) (cwV 0 hts (tb_4 wd_617 wd_619 wp_26 wd_5 (tb_c wd_620)) rfl rfl rfl ⟨rfl, by decide, by decide, by decide +kernel⟩ ⟨Nat.le_of_ble_eq_true rfl, Nat.le_of_ble_eq_true rfl⟩) (tP_V hK hX (hS.2.1 aT hXl hXn) hPc (q := 0) rfl rfl) rfl rfl hl.1 rfl (lv_room (Nat.le_of_ble_eq_true rfl)) d_Se_moveUnits_176 ⟨Nat.le_of_ble_eq_true rfl, Nat.le_of_ble_eq_true rfl⟩)) (fun r3 hr9 => ?_)
          rw [hr9]
          refine va_put (D := D) (ci := 0) (v := .int (mI (ctS X (ctC Mv Sp Su X (gpU (fun j => Su j && Mv j) X (mxI fu fl n) (mxI (fun j => if (Sd j || (Su j && Mv j)) = true then -1 else fu j) fu n) n)) n))) (ty := .int) (C := R_As) (T := T_As) (N := 4) hx hb hts hin_As ty_As tyok_As nm_As hown hK hP hD hS 6 rfl rfl 3 (by decide) (hts _ wd_171) (fun _ h9 => h9) rfl (by decide +kernel) rfl rfl (Nat.le_of_ble_eq_true rfl) d_Se_moveUnits_179 (fun H locs hP hD hS => ?_)
          have hP : va_P D vwCl [(h0, .inr (2, [.ref qm, .ref qs, .int (mI St), .int (mI Mv), .int (mI Sm), .int (mI Ho), .ref q1, .ref q2, .ref q3, .ref q4, .int (mI Su), .int (mI Op), .int (mI Sd), .int (mI Od), .int (mI Sp), .int (mI Oq), .ref q5])), (qm, .inr (4, [.int (nI n), .int (mI S), .int (mI Ce), .ref qh, .ref qn])), (qs, .inr (3, [.int tn, .ref qu, .ref qo, .ref qx, .ref qy, .ref qr, .ref qw])), (qx, .inl (cI, 12, .inl (fun j => nI (X j)))), (qu, .inl (cI, 12, .inl (gpU (fun j => Su j && Mv j) X (mxI fu fl n) (mxI (fun j => if (Sd j || (Su j && Mv j)) = true then -1 else fu j) fu n) n))), (q5, .inl (cI, 12, .inl (mxI fu fl n))), (ha, .inr (0, [.ref au, .ref ao, .ref ag, .int (mI (ctS X (ctC Mv Sp Su X (gpU (fun j => Su j && Mv j) X (mxI fu fl n) (mxI (fun j => if (Sd j || (Su j && Mv j)) = true then -1 else fu j) fu n) n)) n))])), (au, .inl (cI, 12, .inl (mxI (fun j => if Sd j = true then fu j else -1) (fun _ => (-1)) n))), (ao, .inl (cI, 12, .inl (gpU (fun j => Su j && Mv j) X (fun j => if Sm j = true then -1 else nI j) (fun _ => (-1)) n))), (ag, .inl (cI, 12, .inl (fun _ => (-1))))] H := hP
          have hD : va_D A [(h0, .inr (2, [.ref qm, .ref qs, .int (mI St), .int (mI Mv), .int (mI Sm), .int (mI Ho), .ref q1, .ref q2, .ref q3, .ref q4, .int (mI Su), .int (mI Op), .int (mI Sd), .int (mI Od), .int (mI Sp), .int (mI Oq), .ref q5])), (qm, .inr (4, [.int (nI n), .int (mI S), .int (mI Ce), .ref qh, .ref qn])), (qs, .inr (3, [.int tn, .ref qu, .ref qo, .ref qx, .ref qy, .ref qr, .ref qw])), (qx, .inl (cI, 12, .inl (fun j => nI (X j)))), (qu, .inl (cI, 12, .inl (gpU (fun j => Su j && Mv j) X (mxI fu fl n) (mxI (fun j => if (Sd j || (Su j && Mv j)) = true then -1 else fu j) fu n) n))), (q5, .inl (cI, 12, .inl (mxI fu fl n))), (ha, .inr (0, [.ref au, .ref ao, .ref ag, .int (mI (ctS X (ctC Mv Sp Su X (gpU (fun j => Su j && Mv j) X (mxI fu fl n) (mxI (fun j => if (Sd j || (Su j && Mv j)) = true then -1 else fu j) fu n) n)) n))])), (au, .inl (cI, 12, .inl (mxI (fun j => if Sd j = true then fu j else -1) (fun _ => (-1)) n))), (ao, .inl (cI, 12, .inl (gpU (fun j => Su j && Mv j) X (fun j => if Sm j = true then -1 else nI j) (fun _ => (-1)) n))), (ag, .inl (cI, 12, .inl (fun _ => (-1))))] := hD
          have hP9 := hP.sub (ws' := [(h0, .inr (2, [.ref qm, .ref qs, .int (mI St), .int (mI Mv), .int (mI Sm), .int (mI Ho), .ref q1, .ref q2, .ref q3, .ref q4, .int (mI Su), .int (mI Op), .int (mI Sd), .int (mI Od), .int (mI Sp), .int (mI Oq), .ref q5])), (qm, .inr (4, [.int (nI n), .int (mI S), .int (mI Ce), .ref qh, .ref qn])), (qs, .inr (3, [.int tn, .ref qu, .ref qo, .ref qx, .ref qy, .ref qr, .ref qw])), (qx, .inl (cI, 12, .inl (fun j => nI (X j)))), (qu, .inl (cI, 12, .inl (gpU (fun j => Su j && Mv j) X (mxI fu fl n) (mxI (fun j => if (Sd j || (Su j && Mv j)) = true then -1 else fu j) fu n) n))), (q5, .inl (cI, 12, .inl (mxI fu fl n))), (ha, .inr (0, [.ref au, .ref ao, .ref ag, .int (mI (ctS X (ctC Mv Sp Su X (gpU (fun j => Su j && Mv j) X (mxI fu fl n) (mxI (fun j => if (Sd j || (Su j && Mv j)) = true then -1 else fu j) fu n) n)) n))])), (au, .inl (cI, 12, .inl (mxI (fun j => if Sd j = true then fu j else -1) (fun _ => (-1)) n))), (ao, .inl (cI, 12, .inl (gpU (fun j => Su j && Mv j) X (fun j => if Sm j = true then -1 else nI j) (fun _ => (-1)) n))), (ag, .inl (cI, 12, .inl (fun _ => (-1))))]) [0, 1, 2, 3, 4, 5, 6, 7, 8, 9] rfl
          have hD9 := hD.sub (ws' := [(h0, .inr (2, [.ref qm, .ref qs, .int (mI St), .int (mI Mv), .int (mI Sm), .int (mI Ho), .ref q1, .ref q2, .ref q3, .ref q4, .int (mI Su), .int (mI Op), .int (mI Sd), .int (mI Od), .int (mI Sp), .int (mI Oq), .ref q5])), (qm, .inr (4, [.int (nI n), .int (mI S), .int (mI Ce), .ref qh, .ref qn])), (qs, .inr (3, [.int tn, .ref qu, .ref qo, .ref qx, .ref qy, .ref qr, .ref qw])), (qx, .inl (cI, 12, .inl (fun j => nI (X j)))), (qu, .inl (cI, 12, .inl (gpU (fun j => Su j && Mv j) X (mxI fu fl n) (mxI (fun j => if (Sd j || (Su j && Mv j)) = true then -1 else fu j) fu n) n))), (q5, .inl (cI, 12, .inl (mxI fu fl n))), (ha, .inr (0, [.ref au, .ref ao, .ref ag, .int (mI (ctS X (ctC Mv Sp Su X (gpU (fun j => Su j && Mv j) X (mxI fu fl n) (mxI (fun j => if (Sd j || (Su j && Mv j)) = true then -1 else fu j) fu n) n)) n))])), (au, .inl (cI, 12, .inl (mxI (fun j => if Sd j = true then fu j else -1) (fun _ => (-1)) n))), (ao, .inl (cI, 12, .inl (gpU (fun j => Su j && Mv j) X (fun j => if Sm j = true then -1 else nI j) (fun _ => (-1)) n))), (ag, .inl (cI, 12, .inl (fun _ => (-1))))]) [0, 1, 2, 3, 4, 5, 6, 7, 8, 9] (by decide) rfl
          exact W.vret hx hb hr (fun t ht hW => ⟨⟨(), rfl, trivial, by rw [ht]; exact hP9, hD9⟩, hS.F ht⟩) hS.2.2 d_Se_moveUnits_182
        | succ k ih =>
          intro i ls H locs hi hl hP hD hS
          have hlt : i < n := by omega
          have hlt12 : i < 12 := by omega
          refine lv_iload_n hx hb d_Se_moveUnits_94 rfl (lv_at hl 0 rfl) ?_
          refine lv_aload_n hx hb d_Se_moveUnits_95 rfl (lv_at hl 1 rfl) ?_
          refine va_get (D := D) (ci := 2) (v := .ref qm) (C := R_Se) (T := T_Se) (N := 17) hx hb hts hin_Se hown hK hP 0 rfl rfl 0 (by decide) (hts _ wd_103) (fun _ h9 => h9) rfl d_Se_moveUnits_96 ?_
          refine va_get (D := D) (ci := 4) (v := .int (nI n)) (C := R_Wm) (T := T_Wm) (N := 5) hx hb hts hin_Wm hown hK hP 1 rfl rfl 0 (by decide) (hts _ wd_33) (fun _ h9 => h9) rfl d_Se_moveUnits_99 ?_
          refine lv_icmp_ge (tgt := 174) hx hb d_Se_moveUnits_102 (by decide) (fun h0 => absurd h0 (nI_ge hlt (by omega))) (fun _ => ?_)
          refine lv_aload_n hx hb d_Se_moveUnits_105 rfl (lv_at hl 1 rfl) ?_
          refine va_get (D := D) (ci := 2) (v := .int (mI Su)) (C := R_Se) (T := T_Se) (N := 17) hx hb hts hin_Se hown hK hP 0 rfl rfl 10 (by decide) (hts _ wd_113) (fun _ h9 => h9) rfl d_Se_moveUnits_106 ?_
          refine lv_aload_n hx hb d_Se_moveUnits_109 rfl (lv_at hl 1 rfl) ?_
          refine va_get (D := D) (ci := 2) (v := .int (mI Mv)) (C := R_Se) (T := T_Se) (N := 17) hx hb hts hin_Se hown hK hP 0 rfl rfl 3 (by decide) (hts _ wd_106) (fun _ h9 => h9) rfl d_Se_moveUnits_110 ?_
          refine lv_iand hx hb d_Se_moveUnits_113 ?_
          refine tr_top (y := mI (fun j => Su j && Mv j)) (mI_and _ _) ?_
          refine lv_iload_n hx hb d_Se_moveUnits_114 rfl (lv_at hl 0 rfl) ?_
          have hPc := hP.sub (ws' := []) [] rfl
          refine vp_callSi (va_Run.run (va_runSN (As := [.int (mI (fun j => Su j && Mv j)), .int (nI i)]) (rest := []) ⟨hx, hb, hml, hown, hts⟩ (c_Sw_in l D cI cZ cJ cS aT ceT  (fun j => Su j && Mv j) i hlt12) (⟨va_cnB 2 hts (tb_c wd_285) rfl rfl rfl hX.2.2.2.2.2.2.2.1 (hts _ wd_1) ⟨by decide, by decide, by decide +kernel⟩ ⟨Nat.le_of_ble_eq_true rfl, Nat.le_of_ble_eq_true rfl⟩, hts _ wd_284, trivial⟩) (tP_S hK hX (hS.2.1 aT hXl hXn) hPc) rfl rfl hl.1 rfl (lv_room (Nat.le_of_ble_eq_true rfl)) d_Se_moveUnits_115 ⟨Nat.le_of_ble_eq_true rfl, Nat.le_of_ble_eq_true rfl⟩)) (fun r5 hr9 => ?_)
          rw [hr9]
          rcases bI_c (Su i && Mv i) with ⟨hb7, e9⟩ | ⟨hb7, e9⟩
          · refine tr_top e9 ?_
            refine lv_if_eq (tgt := 168) hx hb d_Se_moveUnits_118 (by decide) (fun h0 => absurd h0 (by decide)) (fun _ => ?_)
            refine lv_aload_n hx hb d_Se_moveUnits_121 rfl (lv_at hl 1 rfl) ?_
            refine va_get (D := D) (ci := 2) (v := .ref qs) (C := R_Se) (T := T_Se) (N := 17) hx hb hts hin_Se hown hK hP 0 rfl rfl 1 (by decide) (hts _ wd_104) (fun _ h9 => h9) rfl d_Se_moveUnits_122 ?_
            refine va_get (D := D) (ci := 3) (v := .ref qx) (C := R_Sh) (T := T_Sh) (N := 7) hx hb hts hin_Sh hown hK hP 2 rfl rfl 3 (by decide) (hts _ wd_72) (fun _ h9 => h9) rfl d_Se_moveUnits_125 ?_
            refine lv_iload_n hx hb d_Se_moveUnits_128 rfl (lv_at hl 0 rfl) ?_
            refine tr_iald (v := nI (X i)) hx hb hK hP 3 0 rfl rfl i hlt12 (by decide) rfl d_Se_moveUnits_129 ?_
            refine lv_istore_n (lv' := [(3, .int (nI (X i))), (2, .int (nI i)), (0, .ref h0), (1, .ref ha)]) hx hb d_Se_moveUnits_130 rfl hl (by decide) rfl (fun ls hl => ?_)
            refine lv_aload_n hx hb d_Se_moveUnits_131 rfl (lv_at hl 2 rfl) ?_
            refine va_get (D := D) (ci := 2) (v := .ref qs) (C := R_Se) (T := T_Se) (N := 17) hx hb hts hin_Se hown hK hP 0 rfl rfl 1 (by decide) (hts _ wd_104) (fun _ h9 => h9) rfl d_Se_moveUnits_132 ?_
            refine va_get (D := D) (ci := 3) (v := .ref qu) (C := R_Sh) (T := T_Sh) (N := 7) hx hb hts hin_Sh hown hK hP 2 rfl rfl 1 (by decide) (hts _ wd_66) (fun _ h9 => h9) rfl d_Se_moveUnits_135 ?_
            refine lv_iload_n hx hb d_Se_moveUnits_138 rfl (lv_at hl 0 rfl) ?_
            refine lv_aload_n hx hb d_Se_moveUnits_139 rfl (lv_at hl 2 rfl) ?_
            refine va_get (D := D) (ci := 2) (v := .ref q5) (C := R_Se) (T := T_Se) (N := 17) hx hb hts hin_Se hown hK hP 0 rfl rfl 16 (by decide) (hts _ wd_119) (fun _ h9 => h9) rfl d_Se_moveUnits_140 ?_
            refine lv_iload_n hx hb d_Se_moveUnits_143 rfl (lv_at hl 1 rfl) ?_
            refine tr_iald (v := (mxI fu fl n) i) hx hb hK hP 5 0 rfl rfl i hlt12 (by decide) rfl d_Se_moveUnits_144 ?_
            refine tr_iast (g := upd (gpU (fun j => Su j && Mv j) X (mxI fu fl n) (mxI (fun j => if (Sd j || (Su j && Mv j)) = true then -1 else fu j) fu n) i) (X i) ((mxI fu fl n) i)) hx hb hK hP hD hS 4 0 rfl rfl (X i) (hX12 _) (by decide) rfl d_Se_moveUnits_145 (fun H locs hP hD hS => ?_)
            have hP : va_P D vwCl [(h0, .inr (2, [.ref qm, .ref qs, .int (mI St), .int (mI Mv), .int (mI Sm), .int (mI Ho), .ref q1, .ref q2, .ref q3, .ref q4, .int (mI Su), .int (mI Op), .int (mI Sd), .int (mI Od), .int (mI Sp), .int (mI Oq), .ref q5])), (qm, .inr (4, [.int (nI n), .int (mI S), .int (mI Ce), .ref qh, .ref qn])), (qs, .inr (3, [.int tn, .ref qu, .ref qo, .ref qx, .ref qy, .ref qr, .ref qw])), (qx, .inl (cI, 12, .inl (fun j => nI (X j)))), (qu, .inl (cI, 12, .inl (upd (gpU (fun j => Su j && Mv j) X (mxI fu fl n) (mxI (fun j => if (Sd j || (Su j && Mv j)) = true then -1 else fu j) fu n) i) (X i) ((mxI fu fl n) i)))), (q5, .inl (cI, 12, .inl (mxI fu fl n))), (ha, .inr (0, [.ref au, .ref ao, .ref ag, .int 0])), (au, .inl (cI, 12, .inl (mxI (fun j => if Sd j = true then fu j else -1) (fun _ => (-1)) n))), (ao, .inl (cI, 12, .inl (gpU (fun j => Su j && Mv j) X (fun j => if Sm j = true then -1 else nI j) (fun _ => (-1)) i))), (ag, .inl (cI, 12, .inl (fun _ => (-1))))] H := hP
            have hD : va_D A [(h0, .inr (2, [.ref qm, .ref qs, .int (mI St), .int (mI Mv), .int (mI Sm), .int (mI Ho), .ref q1, .ref q2, .ref q3, .ref q4, .int (mI Su), .int (mI Op), .int (mI Sd), .int (mI Od), .int (mI Sp), .int (mI Oq), .ref q5])), (qm, .inr (4, [.int (nI n), .int (mI S), .int (mI Ce), .ref qh, .ref qn])), (qs, .inr (3, [.int tn, .ref qu, .ref qo, .ref qx, .ref qy, .ref qr, .ref qw])), (qx, .inl (cI, 12, .inl (fun j => nI (X j)))), (qu, .inl (cI, 12, .inl (upd (gpU (fun j => Su j && Mv j) X (mxI fu fl n) (mxI (fun j => if (Sd j || (Su j && Mv j)) = true then -1 else fu j) fu n) i) (X i) ((mxI fu fl n) i)))), (q5, .inl (cI, 12, .inl (mxI fu fl n))), (ha, .inr (0, [.ref au, .ref ao, .ref ag, .int 0])), (au, .inl (cI, 12, .inl (mxI (fun j => if Sd j = true then fu j else -1) (fun _ => (-1)) n))), (ao, .inl (cI, 12, .inl (gpU (fun j => Su j && Mv j) X (fun j => if Sm j = true then -1 else nI j) (fun _ => (-1)) i))), (ag, .inl (cI, 12, .inl (fun _ => (-1))))] := hD
            refine lv_aload_n hx hb d_Se_moveUnits_146 rfl (lv_at hl 3 rfl) ?_
            refine va_get (D := D) (ci := 0) (v := .ref ao) (C := R_As) (T := T_As) (N := 4) hx hb hts hin_As hown hK hP 6 rfl rfl 1 (by decide) (hts _ wd_166) (fun _ h9 => h9) rfl d_Se_moveUnits_147 ?_
            refine lv_iload_n hx hb d_Se_moveUnits_150 rfl (lv_at hl 0 rfl) ?_
            refine lv_aload_n hx hb d_Se_moveUnits_151 rfl (lv_at hl 2 rfl) ?_
            refine va_get (D := D) (ci := 2) (v := .int (mI Sm)) (C := R_Se) (T := T_Se) (N := 17) hx hb hts hin_Se hown hK hP 0 rfl rfl 4 (by decide) (hts _ wd_107) (fun _ h9 => h9) rfl d_Se_moveUnits_152 ?_
            refine lv_iload_n hx hb d_Se_moveUnits_155 rfl (lv_at hl 1 rfl) ?_
            have hPc := hP.sub (ws' := []) [] rfl
            refine vp_callSi (va_Run.run (va_runSN (As := [.int (mI Sm), .int (nI i)]) (rest := [.int (nI (X i)), .ref ao]) ⟨hx, hb, hml, hown, hts⟩ (c_Sw_in l D cI cZ cJ cS aT ceT  Sm i hlt12) (⟨va_cnB 2 hts (tb_c wd_285) rfl rfl rfl hX.2.2.2.2.2.2.2.1 (hts _ wd_1) ⟨by decide, by decide, by decide +kernel⟩ ⟨Nat.le_of_ble_eq_true rfl, Nat.le_of_ble_eq_true rfl⟩, hts _ wd_284, trivial⟩) (tP_S hK hX (hS.2.1 aT hXl hXn) hPc) rfl rfl hl.1 rfl (lv_room (Nat.le_of_ble_eq_true rfl)) d_Se_moveUnits_156 ⟨Nat.le_of_ble_eq_true rfl, Nat.le_of_ble_eq_true rfl⟩)) (fun r9 hr9 => ?_)
            rw [hr9]
            rcases bI_c (Sm i) with ⟨hb11, e9⟩ | ⟨hb11, e9⟩
            · refine tr_top e9 ?_
              refine lv_if_eq (tgt := 166) hx hb d_Se_moveUnits_159 (by decide) (fun h0 => absurd h0 (by decide)) (fun _ => ?_)
              refine lv_iconst (v := (-1)) hx hb d_Se_moveUnits_162 (by decide) ?_
              refine lv_goto (tgt := 167) hx hb d_Se_moveUnits_163 (by decide) ?_
              refine tr_iast (g := upd (gpU (fun j => Su j && Mv j) X (fun j => if Sm j = true then -1 else nI j) (fun _ => (-1)) i) (X i) (-1)) hx hb hK hP hD hS 8 0 rfl rfl (X i) (hX12 _) (by decide) rfl d_Se_moveUnits_167 (fun H locs hP hD hS => ?_)
              have hP : va_P D vwCl [(h0, .inr (2, [.ref qm, .ref qs, .int (mI St), .int (mI Mv), .int (mI Sm), .int (mI Ho), .ref q1, .ref q2, .ref q3, .ref q4, .int (mI Su), .int (mI Op), .int (mI Sd), .int (mI Od), .int (mI Sp), .int (mI Oq), .ref q5])), (qm, .inr (4, [.int (nI n), .int (mI S), .int (mI Ce), .ref qh, .ref qn])), (qs, .inr (3, [.int tn, .ref qu, .ref qo, .ref qx, .ref qy, .ref qr, .ref qw])), (qx, .inl (cI, 12, .inl (fun j => nI (X j)))), (qu, .inl (cI, 12, .inl (upd (gpU (fun j => Su j && Mv j) X (mxI fu fl n) (mxI (fun j => if (Sd j || (Su j && Mv j)) = true then -1 else fu j) fu n) i) (X i) ((mxI fu fl n) i)))), (q5, .inl (cI, 12, .inl (mxI fu fl n))), (ha, .inr (0, [.ref au, .ref ao, .ref ag, .int 0])), (au, .inl (cI, 12, .inl (mxI (fun j => if Sd j = true then fu j else -1) (fun _ => (-1)) n))), (ao, .inl (cI, 12, .inl (upd (gpU (fun j => Su j && Mv j) X (fun j => if Sm j = true then -1 else nI j) (fun _ => (-1)) i) (X i) (-1)))), (ag, .inl (cI, 12, .inl (fun _ => (-1))))] H := hP
              have hD : va_D A [(h0, .inr (2, [.ref qm, .ref qs, .int (mI St), .int (mI Mv), .int (mI Sm), .int (mI Ho), .ref q1, .ref q2, .ref q3, .ref q4, .int (mI Su), .int (mI Op), .int (mI Sd), .int (mI Od), .int (mI Sp), .int (mI Oq), .ref q5])), (qm, .inr (4, [.int (nI n), .int (mI S), .int (mI Ce), .ref qh, .ref qn])), (qs, .inr (3, [.int tn, .ref qu, .ref qo, .ref qx, .ref qy, .ref qr, .ref qw])), (qx, .inl (cI, 12, .inl (fun j => nI (X j)))), (qu, .inl (cI, 12, .inl (upd (gpU (fun j => Su j && Mv j) X (mxI fu fl n) (mxI (fun j => if (Sd j || (Su j && Mv j)) = true then -1 else fu j) fu n) i) (X i) ((mxI fu fl n) i)))), (q5, .inl (cI, 12, .inl (mxI fu fl n))), (ha, .inr (0, [.ref au, .ref ao, .ref ag, .int 0])), (au, .inl (cI, 12, .inl (mxI (fun j => if Sd j = true then fu j else -1) (fun _ => (-1)) n))), (ao, .inl (cI, 12, .inl (upd (gpU (fun j => Su j && Mv j) X (fun j => if Sm j = true then -1 else nI j) (fun _ => (-1)) i) (X i) (-1)))), (ag, .inl (cI, 12, .inl (fun _ => (-1))))] := hD
              refine lv_iinc (lv' := [(2, .int ((nI i) + 1)), (3, .int (nI (X i))), (0, .ref h0), (1, .ref ha)]) hx hb d_Se_moveUnits_168 hl (k := 1) rfl rfl (by decide) rfl (fun ls hl => ?_)
              refine lv_goto (tgt := 94) hx hb d_Se_moveUnits_171 (by decide) ?_
              have e13 : (nI i) + 1 = nI (i + 1) := nI_1 i
              have eo14 : (upd (gpU (fun j => Su j && Mv j) X (mxI fu fl n) (mxI (fun j => if (Sd j || (Su j && Mv j)) = true then -1 else fu j) fu n) i) (X i) ((mxI fu fl n) i)) = (gpU (fun j => Su j && Mv j) X (mxI fu fl n) (mxI (fun j => if (Sd j || (Su j && Mv j)) = true then -1 else fu j) fu n) (i + 1)) := gpU_Y (by simp [hb7, hb11]) (by simp [hb7, hb11])
              have eo15 : (upd (gpU (fun j => Su j && Mv j) X (fun j => if Sm j = true then -1 else nI j) (fun _ => (-1)) i) (X i) (-1)) = (gpU (fun j => Su j && Mv j) X (fun j => if Sm j = true then -1 else nI j) (fun _ => (-1)) (i + 1)) := gpU_Y (by simp [hb7, hb11]) (by simp [hb7, hb11])
              exact ih (i + 1) ls H locs (by omega) (by rw [← e13]; exact lv_sub hl [0, 2, 3] rfl) (by rw [← eo14, ← eo15]; exact hP) (by rw [← eo14, ← eo15]; exact hD) hS
            · refine tr_top e9 ?_
              refine lv_if_eq (tgt := 166) hx hb d_Se_moveUnits_159 (by decide) (fun _ => ?_) (fun h0 => absurd (by decide) h0)
              refine lv_iload_n hx hb d_Se_moveUnits_166 rfl (lv_at hl 1 rfl) ?_
              refine tr_iast (g := upd (gpU (fun j => Su j && Mv j) X (fun j => if Sm j = true then -1 else nI j) (fun _ => (-1)) i) (X i) (nI i)) hx hb hK hP hD hS 8 0 rfl rfl (X i) (hX12 _) (by decide) rfl d_Se_moveUnits_167 (fun H locs hP hD hS => ?_)
              have hP : va_P D vwCl [(h0, .inr (2, [.ref qm, .ref qs, .int (mI St), .int (mI Mv), .int (mI Sm), .int (mI Ho), .ref q1, .ref q2, .ref q3, .ref q4, .int (mI Su), .int (mI Op), .int (mI Sd), .int (mI Od), .int (mI Sp), .int (mI Oq), .ref q5])), (qm, .inr (4, [.int (nI n), .int (mI S), .int (mI Ce), .ref qh, .ref qn])), (qs, .inr (3, [.int tn, .ref qu, .ref qo, .ref qx, .ref qy, .ref qr, .ref qw])), (qx, .inl (cI, 12, .inl (fun j => nI (X j)))), (qu, .inl (cI, 12, .inl (upd (gpU (fun j => Su j && Mv j) X (mxI fu fl n) (mxI (fun j => if (Sd j || (Su j && Mv j)) = true then -1 else fu j) fu n) i) (X i) ((mxI fu fl n) i)))), (q5, .inl (cI, 12, .inl (mxI fu fl n))), (ha, .inr (0, [.ref au, .ref ao, .ref ag, .int 0])), (au, .inl (cI, 12, .inl (mxI (fun j => if Sd j = true then fu j else -1) (fun _ => (-1)) n))), (ao, .inl (cI, 12, .inl (upd (gpU (fun j => Su j && Mv j) X (fun j => if Sm j = true then -1 else nI j) (fun _ => (-1)) i) (X i) (nI i)))), (ag, .inl (cI, 12, .inl (fun _ => (-1))))] H := hP
              have hD : va_D A [(h0, .inr (2, [.ref qm, .ref qs, .int (mI St), .int (mI Mv), .int (mI Sm), .int (mI Ho), .ref q1, .ref q2, .ref q3, .ref q4, .int (mI Su), .int (mI Op), .int (mI Sd), .int (mI Od), .int (mI Sp), .int (mI Oq), .ref q5])), (qm, .inr (4, [.int (nI n), .int (mI S), .int (mI Ce), .ref qh, .ref qn])), (qs, .inr (3, [.int tn, .ref qu, .ref qo, .ref qx, .ref qy, .ref qr, .ref qw])), (qx, .inl (cI, 12, .inl (fun j => nI (X j)))), (qu, .inl (cI, 12, .inl (upd (gpU (fun j => Su j && Mv j) X (mxI fu fl n) (mxI (fun j => if (Sd j || (Su j && Mv j)) = true then -1 else fu j) fu n) i) (X i) ((mxI fu fl n) i)))), (q5, .inl (cI, 12, .inl (mxI fu fl n))), (ha, .inr (0, [.ref au, .ref ao, .ref ag, .int 0])), (au, .inl (cI, 12, .inl (mxI (fun j => if Sd j = true then fu j else -1) (fun _ => (-1)) n))), (ao, .inl (cI, 12, .inl (upd (gpU (fun j => Su j && Mv j) X (fun j => if Sm j = true then -1 else nI j) (fun _ => (-1)) i) (X i) (nI i)))), (ag, .inl (cI, 12, .inl (fun _ => (-1))))] := hD
              refine lv_iinc (lv' := [(2, .int ((nI i) + 1)), (3, .int (nI (X i))), (0, .ref h0), (1, .ref ha)]) hx hb d_Se_moveUnits_168 hl (k := 1) rfl rfl (by decide) rfl (fun ls hl => ?_)
              refine lv_goto (tgt := 94) hx hb d_Se_moveUnits_171 (by decide) ?_
              have e17 : (nI i) + 1 = nI (i + 1) := nI_1 i
              have eo18 : (upd (gpU (fun j => Su j && Mv j) X (mxI fu fl n) (mxI (fun j => if (Sd j || (Su j && Mv j)) = true then -1 else fu j) fu n) i) (X i) ((mxI fu fl n) i)) = (gpU (fun j => Su j && Mv j) X (mxI fu fl n) (mxI (fun j => if (Sd j || (Su j && Mv j)) = true then -1 else fu j) fu n) (i + 1)) := gpU_Y (by simp [hb7, hb11]) (by simp [hb7, hb11])
              have eo19 : (upd (gpU (fun j => Su j && Mv j) X (fun j => if Sm j = true then -1 else nI j) (fun _ => (-1)) i) (X i) (nI i)) = (gpU (fun j => Su j && Mv j) X (fun j => if Sm j = true then -1 else nI j) (fun _ => (-1)) (i + 1)) := gpU_Y (by simp [hb7, hb11]) (by simp [hb7, hb11])
              exact ih (i + 1) ls H locs (by omega) (by rw [← e17]; exact lv_sub hl [0, 2, 3] rfl) (by rw [← eo18, ← eo19]; exact hP) (by rw [← eo18, ← eo19]; exact hD) hS
          · refine tr_top e9 ?_
            refine lv_if_eq (tgt := 168) hx hb d_Se_moveUnits_118 (by decide) (fun _ => ?_) (fun h0 => absurd (by decide) h0)
            refine lv_iinc (lv' := [(2, .int ((nI i) + 1)), (0, .ref h0), (1, .ref ha)]) hx hb d_Se_moveUnits_168 hl (k := 0) rfl rfl (by decide) rfl (fun ls hl => ?_)
            refine lv_goto (tgt := 94) hx hb d_Se_moveUnits_171 (by decide) ?_
            have e21 : (nI i) + 1 = nI (i + 1) := nI_1 i
            have eo22 : (gpU (fun j => Su j && Mv j) X (mxI fu fl n) (mxI (fun j => if (Sd j || (Su j && Mv j)) = true then -1 else fu j) fu n) i) = (gpU (fun j => Su j && Mv j) X (mxI fu fl n) (mxI (fun j => if (Sd j || (Su j && Mv j)) = true then -1 else fu j) fu n) (i + 1)) := gpU_N (by simp [hb7])
            have eo23 : (gpU (fun j => Su j && Mv j) X (fun j => if Sm j = true then -1 else nI j) (fun _ => (-1)) i) = (gpU (fun j => Su j && Mv j) X (fun j => if Sm j = true then -1 else nI j) (fun _ => (-1)) (i + 1)) := gpU_N (by simp [hb7])
            exact ih (i + 1) ls H locs (by omega) (by rw [← e21]; exact lv_sub hl [0, 1, 2] rfl) (by rw [← eo22, ← eo23]; exact hP) (by rw [← eo22, ← eo23]; exact hD) hS
      exact loop2 n 0 ls _ _ (Nat.zero_add _) hl (hP) (hD) hS
    | succ k ih =>
      intro i ls H locs hi hl hP hD hS
      have hlt : i < n := by omega
      have hlt12 : i < 12 := by omega
      refine lv_iload_n hx hb d_Se_moveUnits_6 rfl (lv_at hl 0 rfl) ?_
      refine lv_aload_n hx hb d_Se_moveUnits_7 rfl (lv_at hl 1 rfl) ?_
      refine va_get (D := D) (ci := 2) (v := .ref qm) (C := R_Se) (T := T_Se) (N := 17) hx hb hts hin_Se hown hK hP 0 rfl rfl 0 (by decide) (hts _ wd_103) (fun _ h9 => h9) rfl d_Se_moveUnits_8 ?_
      refine va_get (D := D) (ci := 4) (v := .int (nI n)) (C := R_Wm) (T := T_Wm) (N := 5) hx hb hts hin_Wm hown hK hP 1 rfl rfl 0 (by decide) (hts _ wd_33) (fun _ h9 => h9) rfl d_Se_moveUnits_11 ?_
      refine lv_icmp_ge (tgt := 92) hx hb d_Se_moveUnits_14 (by decide) (fun h0 => absurd h0 (nI_ge hlt (by omega))) (fun _ => ?_)
      refine lv_aload_n hx hb d_Se_moveUnits_17 rfl (lv_at hl 1 rfl) ?_
      refine va_get (D := D) (ci := 2) (v := .ref q5) (C := R_Se) (T := T_Se) (N := 17) hx hb hts hin_Se hown hK hP 0 rfl rfl 16 (by decide) (hts _ wd_119) (fun _ h9 => h9) rfl d_Se_moveUnits_18 ?_
      refine lv_iload_n hx hb d_Se_moveUnits_21 rfl (lv_at hl 0 rfl) ?_
      refine lv_aload_n hx hb d_Se_moveUnits_22 rfl (lv_at hl 1 rfl) ?_
      refine va_get (D := D) (ci := 2) (v := .ref qs) (C := R_Se) (T := T_Se) (N := 17) hx hb hts hin_Se hown hK hP 0 rfl rfl 1 (by decide) (hts _ wd_104) (fun _ h9 => h9) rfl d_Se_moveUnits_23 ?_
      refine va_get (D := D) (ci := 3) (v := .ref qu) (C := R_Sh) (T := T_Sh) (N := 7) hx hb hts hin_Sh hown hK hP 2 rfl rfl 1 (by decide) (hts _ wd_66) (fun _ h9 => h9) rfl d_Se_moveUnits_26 ?_
      refine lv_iload_n hx hb d_Se_moveUnits_29 rfl (lv_at hl 0 rfl) ?_
      refine tr_iald (v := (mxI (fun j => if (Sd j || (Su j && Mv j)) = true then -1 else fu j) fu i) i) hx hb hK hP 4 0 rfl rfl i hlt12 (by decide) rfl d_Se_moveUnits_30 ?_
      refine tr_iast (g := upd (mxI fu fl i) i ((mxI (fun j => if (Sd j || (Su j && Mv j)) = true then -1 else fu j) fu i) i)) hx hb hK hP hD hS 5 0 rfl rfl i hlt12 (by decide) rfl d_Se_moveUnits_31 (fun H locs hP hD hS => ?_)
      have hP : va_P D vwCl [(h0, .inr (2, [.ref qm, .ref qs, .int (mI St), .int (mI Mv), .int (mI Sm), .int (mI Ho), .ref q1, .ref q2, .ref q3, .ref q4, .int (mI Su), .int (mI Op), .int (mI Sd), .int (mI Od), .int (mI Sp), .int (mI Oq), .ref q5])), (qm, .inr (4, [.int (nI n), .int (mI S), .int (mI Ce), .ref qh, .ref qn])), (qs, .inr (3, [.int tn, .ref qu, .ref qo, .ref qx, .ref qy, .ref qr, .ref qw])), (qx, .inl (cI, 12, .inl (fun j => nI (X j)))), (qu, .inl (cI, 12, .inl (mxI (fun j => if (Sd j || (Su j && Mv j)) = true then -1 else fu j) fu i))), (q5, .inl (cI, 12, .inl (upd (mxI fu fl i) i ((mxI (fun j => if (Sd j || (Su j && Mv j)) = true then -1 else fu j) fu i) i)))), (ha, .inr (0, [.ref au, .ref ao, .ref ag, .int 0])), (au, .inl (cI, 12, .inl (mxI (fun j => if Sd j = true then fu j else -1) (fun _ => (-1)) i))), (ao, .inl (cI, 12, .inl (fun _ => (-1)))), (ag, .inl (cI, 12, .inl (fun _ => (-1))))] H := hP
      have hD : va_D A [(h0, .inr (2, [.ref qm, .ref qs, .int (mI St), .int (mI Mv), .int (mI Sm), .int (mI Ho), .ref q1, .ref q2, .ref q3, .ref q4, .int (mI Su), .int (mI Op), .int (mI Sd), .int (mI Od), .int (mI Sp), .int (mI Oq), .ref q5])), (qm, .inr (4, [.int (nI n), .int (mI S), .int (mI Ce), .ref qh, .ref qn])), (qs, .inr (3, [.int tn, .ref qu, .ref qo, .ref qx, .ref qy, .ref qr, .ref qw])), (qx, .inl (cI, 12, .inl (fun j => nI (X j)))), (qu, .inl (cI, 12, .inl (mxI (fun j => if (Sd j || (Su j && Mv j)) = true then -1 else fu j) fu i))), (q5, .inl (cI, 12, .inl (upd (mxI fu fl i) i ((mxI (fun j => if (Sd j || (Su j && Mv j)) = true then -1 else fu j) fu i) i)))), (ha, .inr (0, [.ref au, .ref ao, .ref ag, .int 0])), (au, .inl (cI, 12, .inl (mxI (fun j => if Sd j = true then fu j else -1) (fun _ => (-1)) i))), (ao, .inl (cI, 12, .inl (fun _ => (-1)))), (ag, .inl (cI, 12, .inl (fun _ => (-1))))] := hD
      refine lv_aload_n hx hb d_Se_moveUnits_32 rfl (lv_at hl 1 rfl) ?_
      refine va_get (D := D) (ci := 2) (v := .int (mI Sd)) (C := R_Se) (T := T_Se) (N := 17) hx hb hts hin_Se hown hK hP 0 rfl rfl 12 (by decide) (hts _ wd_115) (fun _ h9 => h9) rfl d_Se_moveUnits_33 ?_
      refine lv_iload_n hx hb d_Se_moveUnits_36 rfl (lv_at hl 0 rfl) ?_
      have hPc := hP.sub (ws' := []) [] rfl
      refine vp_callSi (va_Run.run (va_runSN (As := [.int (mI Sd), .int (nI i)]) (rest := []) ⟨hx, hb, hml, hown, hts⟩ (c_Sw_in l D cI cZ cJ cS aT ceT  Sd i hlt12) (⟨va_cnB 2 hts (tb_c wd_285) rfl rfl rfl hX.2.2.2.2.2.2.2.1 (hts _ wd_1) ⟨by decide, by decide, by decide +kernel⟩ ⟨Nat.le_of_ble_eq_true rfl, Nat.le_of_ble_eq_true rfl⟩, hts _ wd_284, trivial⟩) (tP_S hK hX (hS.2.1 aT hXl hXn) hPc) rfl rfl hl.1 rfl (lv_room (Nat.le_of_ble_eq_true rfl)) d_Se_moveUnits_37 ⟨Nat.le_of_ble_eq_true rfl, Nat.le_of_ble_eq_true rfl⟩)) (fun r25 hr9 => ?_)
      rw [hr9]
      rcases bI_c (Sd i) with ⟨hb27, e9⟩ | ⟨hb27, e9⟩
      · refine tr_top e9 ?_
        refine lv_if_eq (tgt := 55) hx hb d_Se_moveUnits_40 (by decide) (fun h0 => absurd h0 (by decide)) (fun _ => ?_)
        refine lv_aload_n hx hb d_Se_moveUnits_43 rfl (lv_at hl 2 rfl) ?_
        refine va_get (D := D) (ci := 0) (v := .ref au) (C := R_As) (T := T_As) (N := 4) hx hb hts hin_As hown hK hP 6 rfl rfl 0 (by decide) (hts _ wd_163) (fun _ h9 => h9) rfl d_Se_moveUnits_44 ?_
        refine lv_iload_n hx hb d_Se_moveUnits_47 rfl (lv_at hl 0 rfl) ?_
        refine lv_aload_n hx hb d_Se_moveUnits_48 rfl (lv_at hl 1 rfl) ?_
        refine va_get (D := D) (ci := 2) (v := .ref q5) (C := R_Se) (T := T_Se) (N := 17) hx hb hts hin_Se hown hK hP 0 rfl rfl 16 (by decide) (hts _ wd_119) (fun _ h9 => h9) rfl d_Se_moveUnits_49 ?_
        refine lv_iload_n hx hb d_Se_moveUnits_52 rfl (lv_at hl 0 rfl) ?_
        refine tr_iald (v := (upd (mxI fu fl i) i ((mxI (fun j => if (Sd j || (Su j && Mv j)) = true then -1 else fu j) fu i) i)) i) hx hb hK hP 5 0 rfl rfl i hlt12 (by decide) rfl d_Se_moveUnits_53 ?_
        refine tr_iast (g := upd (mxI (fun j => if Sd j = true then fu j else -1) (fun _ => (-1)) i) i ((upd (mxI fu fl i) i ((mxI (fun j => if (Sd j || (Su j && Mv j)) = true then -1 else fu j) fu i) i)) i)) hx hb hK hP hD hS 7 0 rfl rfl i hlt12 (by decide) rfl d_Se_moveUnits_54 (fun H locs hP hD hS => ?_)
        have hP : va_P D vwCl [(h0, .inr (2, [.ref qm, .ref qs, .int (mI St), .int (mI Mv), .int (mI Sm), .int (mI Ho), .ref q1, .ref q2, .ref q3, .ref q4, .int (mI Su), .int (mI Op), .int (mI Sd), .int (mI Od), .int (mI Sp), .int (mI Oq), .ref q5])), (qm, .inr (4, [.int (nI n), .int (mI S), .int (mI Ce), .ref qh, .ref qn])), (qs, .inr (3, [.int tn, .ref qu, .ref qo, .ref qx, .ref qy, .ref qr, .ref qw])), (qx, .inl (cI, 12, .inl (fun j => nI (X j)))), (qu, .inl (cI, 12, .inl (mxI (fun j => if (Sd j || (Su j && Mv j)) = true then -1 else fu j) fu i))), (q5, .inl (cI, 12, .inl (upd (mxI fu fl i) i ((mxI (fun j => if (Sd j || (Su j && Mv j)) = true then -1 else fu j) fu i) i)))), (ha, .inr (0, [.ref au, .ref ao, .ref ag, .int 0])), (au, .inl (cI, 12, .inl (upd (mxI (fun j => if Sd j = true then fu j else -1) (fun _ => (-1)) i) i ((upd (mxI fu fl i) i ((mxI (fun j => if (Sd j || (Su j && Mv j)) = true then -1 else fu j) fu i) i)) i)))), (ao, .inl (cI, 12, .inl (fun _ => (-1)))), (ag, .inl (cI, 12, .inl (fun _ => (-1))))] H := hP
        have hD : va_D A [(h0, .inr (2, [.ref qm, .ref qs, .int (mI St), .int (mI Mv), .int (mI Sm), .int (mI Ho), .ref q1, .ref q2, .ref q3, .ref q4, .int (mI Su), .int (mI Op), .int (mI Sd), .int (mI Od), .int (mI Sp), .int (mI Oq), .ref q5])), (qm, .inr (4, [.int (nI n), .int (mI S), .int (mI Ce), .ref qh, .ref qn])), (qs, .inr (3, [.int tn, .ref qu, .ref qo, .ref qx, .ref qy, .ref qr, .ref qw])), (qx, .inl (cI, 12, .inl (fun j => nI (X j)))), (qu, .inl (cI, 12, .inl (mxI (fun j => if (Sd j || (Su j && Mv j)) = true then -1 else fu j) fu i))), (q5, .inl (cI, 12, .inl (upd (mxI fu fl i) i ((mxI (fun j => if (Sd j || (Su j && Mv j)) = true then -1 else fu j) fu i) i)))), (ha, .inr (0, [.ref au, .ref ao, .ref ag, .int 0])), (au, .inl (cI, 12, .inl (upd (mxI (fun j => if Sd j = true then fu j else -1) (fun _ => (-1)) i) i ((upd (mxI fu fl i) i ((mxI (fun j => if (Sd j || (Su j && Mv j)) = true then -1 else fu j) fu i) i)) i)))), (ao, .inl (cI, 12, .inl (fun _ => (-1)))), (ag, .inl (cI, 12, .inl (fun _ => (-1))))] := hD
        refine lv_aload_n hx hb d_Se_moveUnits_55 rfl (lv_at hl 1 rfl) ?_
        refine va_get (D := D) (ci := 2) (v := .int (mI Sd)) (C := R_Se) (T := T_Se) (N := 17) hx hb hts hin_Se hown hK hP 0 rfl rfl 12 (by decide) (hts _ wd_115) (fun _ h9 => h9) rfl d_Se_moveUnits_56 ?_
        refine lv_aload_n hx hb d_Se_moveUnits_59 rfl (lv_at hl 1 rfl) ?_
        refine va_get (D := D) (ci := 2) (v := .int (mI Su)) (C := R_Se) (T := T_Se) (N := 17) hx hb hts hin_Se hown hK hP 0 rfl rfl 10 (by decide) (hts _ wd_113) (fun _ h9 => h9) rfl d_Se_moveUnits_60 ?_
        refine lv_aload_n hx hb d_Se_moveUnits_63 rfl (lv_at hl 1 rfl) ?_
        refine va_get (D := D) (ci := 2) (v := .int (mI Mv)) (C := R_Se) (T := T_Se) (N := 17) hx hb hts hin_Se hown hK hP 0 rfl rfl 3 (by decide) (hts _ wd_106) (fun _ h9 => h9) rfl d_Se_moveUnits_64 ?_
        refine lv_iand hx hb d_Se_moveUnits_67 ?_
        refine tr_top (y := mI (fun j => Su j && Mv j)) (mI_and _ _) ?_
        refine lv_ior hx hb d_Se_moveUnits_68 ?_
        refine tr_top (y := mI (fun j => Sd j || (Su j && Mv j))) (mI_or _ _) ?_
        refine lv_iload_n hx hb d_Se_moveUnits_69 rfl (lv_at hl 0 rfl) ?_
        have hPc := hP.sub (ws' := []) [] rfl
        refine vp_callSi (va_Run.run (va_runSN (As := [.int (mI (fun j => Sd j || (Su j && Mv j))), .int (nI i)]) (rest := []) ⟨hx, hb, hml, hown, hts⟩ (c_Sw_in l D cI cZ cJ cS aT ceT  (fun j => Sd j || (Su j && Mv j)) i hlt12) (⟨va_cnB 2 hts (tb_c wd_285) rfl rfl rfl hX.2.2.2.2.2.2.2.1 (hts _ wd_1) ⟨by decide, by decide, by decide +kernel⟩ ⟨Nat.le_of_ble_eq_true rfl, Nat.le_of_ble_eq_true rfl⟩, hts _ wd_284, trivial⟩) (tP_S hK hX (hS.2.1 aT hXl hXn) hPc) rfl rfl hl.1 rfl (lv_room (Nat.le_of_ble_eq_true rfl)) d_Se_moveUnits_70 ⟨Nat.le_of_ble_eq_true rfl, Nat.le_of_ble_eq_true rfl⟩)) (fun r29 hr9 => ?_)
        rw [hr9]
        rcases bI_c (Sd i || (Su i && Mv i)) with ⟨hb31, e9⟩ | ⟨hb31, e9⟩
        · refine tr_top e9 ?_
          refine lv_if_eq (tgt := 86) hx hb d_Se_moveUnits_73 (by decide) (fun h0 => absurd h0 (by decide)) (fun _ => ?_)
          refine lv_aload_n hx hb d_Se_moveUnits_76 rfl (lv_at hl 1 rfl) ?_
          refine va_get (D := D) (ci := 2) (v := .ref qs) (C := R_Se) (T := T_Se) (N := 17) hx hb hts hin_Se hown hK hP 0 rfl rfl 1 (by decide) (hts _ wd_104) (fun _ h9 => h9) rfl d_Se_moveUnits_77 ?_
          refine va_get (D := D) (ci := 3) (v := .ref qu) (C := R_Sh) (T := T_Sh) (N := 7) hx hb hts hin_Sh hown hK hP 2 rfl rfl 1 (by decide) (hts _ wd_66) (fun _ h9 => h9) rfl d_Se_moveUnits_80 ?_
          refine lv_iload_n hx hb d_Se_moveUnits_83 rfl (lv_at hl 0 rfl) ?_
          refine lv_iconst (v := (-1)) hx hb d_Se_moveUnits_84 (by decide) ?_
          refine tr_iast (g := upd (mxI (fun j => if (Sd j || (Su j && Mv j)) = true then -1 else fu j) fu i) i (-1)) hx hb hK hP hD hS 4 0 rfl rfl i hlt12 (by decide) rfl d_Se_moveUnits_85 (fun H locs hP hD hS => ?_)
          have hP : va_P D vwCl [(h0, .inr (2, [.ref qm, .ref qs, .int (mI St), .int (mI Mv), .int (mI Sm), .int (mI Ho), .ref q1, .ref q2, .ref q3, .ref q4, .int (mI Su), .int (mI Op), .int (mI Sd), .int (mI Od), .int (mI Sp), .int (mI Oq), .ref q5])), (qm, .inr (4, [.int (nI n), .int (mI S), .int (mI Ce), .ref qh, .ref qn])), (qs, .inr (3, [.int tn, .ref qu, .ref qo, .ref qx, .ref qy, .ref qr, .ref qw])), (qx, .inl (cI, 12, .inl (fun j => nI (X j)))), (qu, .inl (cI, 12, .inl (upd (mxI (fun j => if (Sd j || (Su j && Mv j)) = true then -1 else fu j) fu i) i (-1)))), (q5, .inl (cI, 12, .inl (upd (mxI fu fl i) i ((mxI (fun j => if (Sd j || (Su j && Mv j)) = true then -1 else fu j) fu i) i)))), (ha, .inr (0, [.ref au, .ref ao, .ref ag, .int 0])), (au, .inl (cI, 12, .inl (upd (mxI (fun j => if Sd j = true then fu j else -1) (fun _ => (-1)) i) i ((upd (mxI fu fl i) i ((mxI (fun j => if (Sd j || (Su j && Mv j)) = true then -1 else fu j) fu i) i)) i)))), (ao, .inl (cI, 12, .inl (fun _ => (-1)))), (ag, .inl (cI, 12, .inl (fun _ => (-1))))] H := hP
          have hD : va_D A [(h0, .inr (2, [.ref qm, .ref qs, .int (mI St), .int (mI Mv), .int (mI Sm), .int (mI Ho), .ref q1, .ref q2, .ref q3, .ref q4, .int (mI Su), .int (mI Op), .int (mI Sd), .int (mI Od), .int (mI Sp), .int (mI Oq), .ref q5])), (qm, .inr (4, [.int (nI n), .int (mI S), .int (mI Ce), .ref qh, .ref qn])), (qs, .inr (3, [.int tn, .ref qu, .ref qo, .ref qx, .ref qy, .ref qr, .ref qw])), (qx, .inl (cI, 12, .inl (fun j => nI (X j)))), (qu, .inl (cI, 12, .inl (upd (mxI (fun j => if (Sd j || (Su j && Mv j)) = true then -1 else fu j) fu i) i (-1)))), (q5, .inl (cI, 12, .inl (upd (mxI fu fl i) i ((mxI (fun j => if (Sd j || (Su j && Mv j)) = true then -1 else fu j) fu i) i)))), (ha, .inr (0, [.ref au, .ref ao, .ref ag, .int 0])), (au, .inl (cI, 12, .inl (upd (mxI (fun j => if Sd j = true then fu j else -1) (fun _ => (-1)) i) i ((upd (mxI fu fl i) i ((mxI (fun j => if (Sd j || (Su j && Mv j)) = true then -1 else fu j) fu i) i)) i)))), (ao, .inl (cI, 12, .inl (fun _ => (-1)))), (ag, .inl (cI, 12, .inl (fun _ => (-1))))] := hD
          refine lv_iinc (lv' := [(2, .int ((nI i) + 1)), (0, .ref h0), (1, .ref ha)]) hx hb d_Se_moveUnits_86 hl (k := 0) rfl rfl (by decide) rfl (fun ls hl => ?_)
          refine lv_goto (tgt := 6) hx hb d_Se_moveUnits_89 (by decide) ?_
          have e33 : (nI i) + 1 = nI (i + 1) := nI_1 i
          have eo34 : (upd (mxI fu fl i) i ((mxI (fun j => if (Sd j || (Su j && Mv j)) = true then -1 else fu j) fu i) i)) = (mxI fu fl (i + 1)) := mxI_s (by first | (simp only [mxI_at, pk_us, hb31] <;> simp <;> done) | (simp only [mxI_at, pk_us, hb27, hb31] <;> simp [mxI_at, pk_us, hb27, hb31] <;> done))
          have eo35 : (upd (mxI (fun j => if Sd j = true then fu j else -1) (fun _ => (-1)) i) i ((upd (mxI fu fl i) i ((mxI (fun j => if (Sd j || (Su j && Mv j)) = true then -1 else fu j) fu i) i)) i)) = (mxI (fun j => if Sd j = true then fu j else -1) (fun _ => (-1)) (i + 1)) := mxI_s (by first | (simp only [mxI_at, pk_us, hb31] <;> simp <;> done) | (simp only [mxI_at, pk_us, hb27, hb31] <;> simp [mxI_at, pk_us, hb27, hb31] <;> done))
          have eo36 : (upd (mxI (fun j => if (Sd j || (Su j && Mv j)) = true then -1 else fu j) fu i) i (-1)) = (mxI (fun j => if (Sd j || (Su j && Mv j)) = true then -1 else fu j) fu (i + 1)) := mxI_s (by first | (simp only [mxI_at, pk_us, hb31] <;> simp <;> done) | (simp only [mxI_at, pk_us, hb27, hb31] <;> simp [mxI_at, pk_us, hb27, hb31] <;> done))
          exact ih (i + 1) ls H locs (by omega) (by rw [← e33]; exact lv_sub hl [0, 1, 2] rfl) (by rw [← eo34, ← eo35, ← eo36]; exact hP) (by rw [← eo34, ← eo35, ← eo36]; exact hD) hS
        · refine tr_top e9 ?_
          refine lv_if_eq (tgt := 86) hx hb d_Se_moveUnits_73 (by decide) (fun _ => ?_) (fun h0 => absurd (by decide) h0)
          refine lv_iinc (lv' := [(2, .int ((nI i) + 1)), (0, .ref h0), (1, .ref ha)]) hx hb d_Se_moveUnits_86 hl (k := 0) rfl rfl (by decide) rfl (fun ls hl => ?_)
          refine lv_goto (tgt := 6) hx hb d_Se_moveUnits_89 (by decide) ?_
          have e38 : (nI i) + 1 = nI (i + 1) := nI_1 i
          have eo39 : (upd (mxI fu fl i) i ((mxI (fun j => if (Sd j || (Su j && Mv j)) = true then -1 else fu j) fu i) i)) = (mxI fu fl (i + 1)) := mxI_s (by first | (simp only [mxI_at, pk_us, hb31] <;> simp <;> done) | (simp only [mxI_at, pk_us, hb27, hb31] <;> simp [mxI_at, pk_us, hb27, hb31] <;> done))
          have eo40 : (upd (mxI (fun j => if Sd j = true then fu j else -1) (fun _ => (-1)) i) i ((upd (mxI fu fl i) i ((mxI (fun j => if (Sd j || (Su j && Mv j)) = true then -1 else fu j) fu i) i)) i)) = (mxI (fun j => if Sd j = true then fu j else -1) (fun _ => (-1)) (i + 1)) := mxI_s (by first | (simp only [mxI_at, pk_us, hb31] <;> simp <;> done) | (simp only [mxI_at, pk_us, hb27, hb31] <;> simp [mxI_at, pk_us, hb27, hb31] <;> done))
          have eo41 : (mxI (fun j => if (Sd j || (Su j && Mv j)) = true then -1 else fu j) fu i) = (mxI (fun j => if (Sd j || (Su j && Mv j)) = true then -1 else fu j) fu (i + 1)) := mxI_k (by first | (simp only [mxI_at, pk_us, hb31] <;> simp <;> done) | (simp only [mxI_at, pk_us, hb27, hb31] <;> simp [mxI_at, pk_us, hb27, hb31] <;> done))
          exact ih (i + 1) ls H locs (by omega) (by rw [← e38]; exact lv_sub hl [0, 1, 2] rfl) (by rw [← eo39, ← eo40, ← eo41]; exact hP) (by rw [← eo39, ← eo40, ← eo41]; exact hD) hS
      · refine tr_top e9 ?_
        refine lv_if_eq (tgt := 55) hx hb d_Se_moveUnits_40 (by decide) (fun _ => ?_) (fun h0 => absurd (by decide) h0)
        refine lv_aload_n hx hb d_Se_moveUnits_55 rfl (lv_at hl 1 rfl) ?_
        refine va_get (D := D) (ci := 2) (v := .int (mI Sd)) (C := R_Se) (T := T_Se) (N := 17) hx hb hts hin_Se hown hK hP 0 rfl rfl 12 (by decide) (hts _ wd_115) (fun _ h9 => h9) rfl d_Se_moveUnits_56 ?_
        refine lv_aload_n hx hb d_Se_moveUnits_59 rfl (lv_at hl 1 rfl) ?_
        refine va_get (D := D) (ci := 2) (v := .int (mI Su)) (C := R_Se) (T := T_Se) (N := 17) hx hb hts hin_Se hown hK hP 0 rfl rfl 10 (by decide) (hts _ wd_113) (fun _ h9 => h9) rfl d_Se_moveUnits_60 ?_
        refine lv_aload_n hx hb d_Se_moveUnits_63 rfl (lv_at hl 1 rfl) ?_
        refine va_get (D := D) (ci := 2) (v := .int (mI Mv)) (C := R_Se) (T := T_Se) (N := 17) hx hb hts hin_Se hown hK hP 0 rfl rfl 3 (by decide) (hts _ wd_106) (fun _ h9 => h9) rfl d_Se_moveUnits_64 ?_
        refine lv_iand hx hb d_Se_moveUnits_67 ?_
        refine tr_top (y := mI (fun j => Su j && Mv j)) (mI_and _ _) ?_
        refine lv_ior hx hb d_Se_moveUnits_68 ?_
        refine tr_top (y := mI (fun j => Sd j || (Su j && Mv j))) (mI_or _ _) ?_
        refine lv_iload_n hx hb d_Se_moveUnits_69 rfl (lv_at hl 0 rfl) ?_
        have hPc := hP.sub (ws' := []) [] rfl
        refine vp_callSi (va_Run.run (va_runSN (As := [.int (mI (fun j => Sd j || (Su j && Mv j))), .int (nI i)]) (rest := []) ⟨hx, hb, hml, hown, hts⟩ (c_Sw_in l D cI cZ cJ cS aT ceT  (fun j => Sd j || (Su j && Mv j)) i hlt12) (⟨va_cnB 2 hts (tb_c wd_285) rfl rfl rfl hX.2.2.2.2.2.2.2.1 (hts _ wd_1) ⟨by decide, by decide, by decide +kernel⟩ ⟨Nat.le_of_ble_eq_true rfl, Nat.le_of_ble_eq_true rfl⟩, hts _ wd_284, trivial⟩) (tP_S hK hX (hS.2.1 aT hXl hXn) hPc) rfl rfl hl.1 rfl (lv_room (Nat.le_of_ble_eq_true rfl)) d_Se_moveUnits_70 ⟨Nat.le_of_ble_eq_true rfl, Nat.le_of_ble_eq_true rfl⟩)) (fun r43 hr9 => ?_)
        rw [hr9]
        rcases bI_c (Sd i || (Su i && Mv i)) with ⟨hb45, e9⟩ | ⟨hb45, e9⟩
        · refine tr_top e9 ?_
          refine lv_if_eq (tgt := 86) hx hb d_Se_moveUnits_73 (by decide) (fun h0 => absurd h0 (by decide)) (fun _ => ?_)
          refine lv_aload_n hx hb d_Se_moveUnits_76 rfl (lv_at hl 1 rfl) ?_
          refine va_get (D := D) (ci := 2) (v := .ref qs) (C := R_Se) (T := T_Se) (N := 17) hx hb hts hin_Se hown hK hP 0 rfl rfl 1 (by decide) (hts _ wd_104) (fun _ h9 => h9) rfl d_Se_moveUnits_77 ?_
          refine va_get (D := D) (ci := 3) (v := .ref qu) (C := R_Sh) (T := T_Sh) (N := 7) hx hb hts hin_Sh hown hK hP 2 rfl rfl 1 (by decide) (hts _ wd_66) (fun _ h9 => h9) rfl d_Se_moveUnits_80 ?_
          refine lv_iload_n hx hb d_Se_moveUnits_83 rfl (lv_at hl 0 rfl) ?_
          refine lv_iconst (v := (-1)) hx hb d_Se_moveUnits_84 (by decide) ?_
          refine tr_iast (g := upd (mxI (fun j => if (Sd j || (Su j && Mv j)) = true then -1 else fu j) fu i) i (-1)) hx hb hK hP hD hS 4 0 rfl rfl i hlt12 (by decide) rfl d_Se_moveUnits_85 (fun H locs hP hD hS => ?_)
          have hP : va_P D vwCl [(h0, .inr (2, [.ref qm, .ref qs, .int (mI St), .int (mI Mv), .int (mI Sm), .int (mI Ho), .ref q1, .ref q2, .ref q3, .ref q4, .int (mI Su), .int (mI Op), .int (mI Sd), .int (mI Od), .int (mI Sp), .int (mI Oq), .ref q5])), (qm, .inr (4, [.int (nI n), .int (mI S), .int (mI Ce), .ref qh, .ref qn])), (qs, .inr (3, [.int tn, .ref qu, .ref qo, .ref qx, .ref qy, .ref qr, .ref qw])), (qx, .inl (cI, 12, .inl (fun j => nI (X j)))), (qu, .inl (cI, 12, .inl (upd (mxI (fun j => if (Sd j || (Su j && Mv j)) = true then -1 else fu j) fu i) i (-1)))), (q5, .inl (cI, 12, .inl (upd (mxI fu fl i) i ((mxI (fun j => if (Sd j || (Su j && Mv j)) = true then -1 else fu j) fu i) i)))), (ha, .inr (0, [.ref au, .ref ao, .ref ag, .int 0])), (au, .inl (cI, 12, .inl (mxI (fun j => if Sd j = true then fu j else -1) (fun _ => (-1)) i))), (ao, .inl (cI, 12, .inl (fun _ => (-1)))), (ag, .inl (cI, 12, .inl (fun _ => (-1))))] H := hP
          have hD : va_D A [(h0, .inr (2, [.ref qm, .ref qs, .int (mI St), .int (mI Mv), .int (mI Sm), .int (mI Ho), .ref q1, .ref q2, .ref q3, .ref q4, .int (mI Su), .int (mI Op), .int (mI Sd), .int (mI Od), .int (mI Sp), .int (mI Oq), .ref q5])), (qm, .inr (4, [.int (nI n), .int (mI S), .int (mI Ce), .ref qh, .ref qn])), (qs, .inr (3, [.int tn, .ref qu, .ref qo, .ref qx, .ref qy, .ref qr, .ref qw])), (qx, .inl (cI, 12, .inl (fun j => nI (X j)))), (qu, .inl (cI, 12, .inl (upd (mxI (fun j => if (Sd j || (Su j && Mv j)) = true then -1 else fu j) fu i) i (-1)))), (q5, .inl (cI, 12, .inl (upd (mxI fu fl i) i ((mxI (fun j => if (Sd j || (Su j && Mv j)) = true then -1 else fu j) fu i) i)))), (ha, .inr (0, [.ref au, .ref ao, .ref ag, .int 0])), (au, .inl (cI, 12, .inl (mxI (fun j => if Sd j = true then fu j else -1) (fun _ => (-1)) i))), (ao, .inl (cI, 12, .inl (fun _ => (-1)))), (ag, .inl (cI, 12, .inl (fun _ => (-1))))] := hD
          refine lv_iinc (lv' := [(2, .int ((nI i) + 1)), (0, .ref h0), (1, .ref ha)]) hx hb d_Se_moveUnits_86 hl (k := 0) rfl rfl (by decide) rfl (fun ls hl => ?_)
          refine lv_goto (tgt := 6) hx hb d_Se_moveUnits_89 (by decide) ?_
          have e47 : (nI i) + 1 = nI (i + 1) := nI_1 i
          have eo48 : (upd (mxI fu fl i) i ((mxI (fun j => if (Sd j || (Su j && Mv j)) = true then -1 else fu j) fu i) i)) = (mxI fu fl (i + 1)) := mxI_s (by first | (simp only [mxI_at, pk_us, hb45] <;> simp <;> done) | (simp only [mxI_at, pk_us, hb27, hb45] <;> simp [mxI_at, pk_us, hb27, hb45] <;> done))
          have eo49 : (mxI (fun j => if Sd j = true then fu j else -1) (fun _ => (-1)) i) = (mxI (fun j => if Sd j = true then fu j else -1) (fun _ => (-1)) (i + 1)) := mxI_k (by first | (simp only [mxI_at, pk_us, hb45] <;> simp <;> done) | (simp only [mxI_at, pk_us, hb27, hb45] <;> simp [mxI_at, pk_us, hb27, hb45] <;> done))
          have eo50 : (upd (mxI (fun j => if (Sd j || (Su j && Mv j)) = true then -1 else fu j) fu i) i (-1)) = (mxI (fun j => if (Sd j || (Su j && Mv j)) = true then -1 else fu j) fu (i + 1)) := mxI_s (by first | (simp only [mxI_at, pk_us, hb45] <;> simp <;> done) | (simp only [mxI_at, pk_us, hb27, hb45] <;> simp [mxI_at, pk_us, hb27, hb45] <;> done))
          exact ih (i + 1) ls H locs (by omega) (by rw [← e47]; exact lv_sub hl [0, 1, 2] rfl) (by rw [← eo48, ← eo49, ← eo50]; exact hP) (by rw [← eo48, ← eo49, ← eo50]; exact hD) hS
        · refine tr_top e9 ?_
          refine lv_if_eq (tgt := 86) hx hb d_Se_moveUnits_73 (by decide) (fun _ => ?_) (fun h0 => absurd (by decide) h0)
          refine lv_iinc (lv' := [(2, .int ((nI i) + 1)), (0, .ref h0), (1, .ref ha)]) hx hb d_Se_moveUnits_86 hl (k := 0) rfl rfl (by decide) rfl (fun ls hl => ?_)
          refine lv_goto (tgt := 6) hx hb d_Se_moveUnits_89 (by decide) ?_
          have e52 : (nI i) + 1 = nI (i + 1) := nI_1 i
          have eo53 : (upd (mxI fu fl i) i ((mxI (fun j => if (Sd j || (Su j && Mv j)) = true then -1 else fu j) fu i) i)) = (mxI fu fl (i + 1)) := mxI_s (by first | (simp only [mxI_at, pk_us, hb45] <;> simp <;> done) | (simp only [mxI_at, pk_us, hb27, hb45] <;> simp [mxI_at, pk_us, hb27, hb45] <;> done))
          have eo54 : (mxI (fun j => if Sd j = true then fu j else -1) (fun _ => (-1)) i) = (mxI (fun j => if Sd j = true then fu j else -1) (fun _ => (-1)) (i + 1)) := mxI_k (by first | (simp only [mxI_at, pk_us, hb45] <;> simp <;> done) | (simp only [mxI_at, pk_us, hb27, hb45] <;> simp [mxI_at, pk_us, hb27, hb45] <;> done))
          have eo55 : (mxI (fun j => if (Sd j || (Su j && Mv j)) = true then -1 else fu j) fu i) = (mxI (fun j => if (Sd j || (Su j && Mv j)) = true then -1 else fu j) fu (i + 1)) := mxI_k (by first | (simp only [mxI_at, pk_us, hb45] <;> simp <;> done) | (simp only [mxI_at, pk_us, hb27, hb45] <;> simp [mxI_at, pk_us, hb27, hb45] <;> done))
          exact ih (i + 1) ls H locs (by omega) (by rw [← e52]; exact lv_sub hl [0, 1, 2] rfl) (by rw [← eo53, ← eo54, ← eo55]; exact hP) (by rw [← eo53, ← eo54, ← eo55]; exact hD) hS
  have ei56 : (mxI fu fl 0) = (fl) := mxI_0 _ _
  have ei57 : (mxI (fun j => if Sd j = true then fu j else -1) (fun _ => (-1)) 0) = (fun _ => (-1)) := mxI_0 _ _
  have ei58 : (mxI (fun j => if (Sd j || (Su j && Mv j)) = true then -1 else fu j) fu 0) = (fu) := mxI_0 _ _
  exact loop n 0 ls _ _ (Nat.zero_add _) hl (by rw [ei56, ei57, ei58]; exact hP) (by rw [ei56, ei57, ei58]; exact hD) hS
