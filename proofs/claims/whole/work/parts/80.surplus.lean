def rmP (c : (Nat → Int32) → Nat → Bool) (f : Nat → Int32) (n : Nat) : Nat → Nat → Int32
  | 0 => f
  | i + 1 => if c (rmP c f n i) (n - 1 - i) = true then upd (rmP c f n i) (n - 1 - i) (-1) else rmP c f n i
theorem rmP_s {c : (Nat → Int32) → Nat → Bool} {f : Nat → Int32} {n j : Nat} (hj : j < n) : rmP c f n (n - j) = if c (rmP c f n (n - (j + 1))) j = true then upd (rmP c f n (n - (j + 1))) j (-1) else rmP c f n (n - (j + 1)) := by
  obtain ⟨i, hi⟩ : ∃ i, i = n - (j + 1) := ⟨_, rfl⟩
  have e1 : n - j = i + 1 := by omega
  have e2 : n - 1 - i = j := by omega
  rw [← hi, e1, rmP, e2]
theorem rmP_y {c : (Nat → Int32) → Nat → Bool} {f : Nat → Int32} {n j : Nat} (hj : j < n) (h : c (rmP c f n (n - (j + 1))) j = true) : upd (rmP c f n (n - (j + 1))) j (-1) = rmP c f n (n - j) := by rw [rmP_s hj, if_pos h]
theorem rmP_n {c : (Nat → Int32) → Nat → Bool} {f : Nat → Int32} {n j : Nat} (hj : j < n) (h : c (rmP c f n (n - (j + 1))) j = false) : rmP c f n (n - (j + 1)) = rmP c f n (n - j) := by rw [rmP_s hj, if_neg (by rw [h]; decide)]
theorem nI_dn (j : Nat) : nI j + (-1) = nI j - 1 := (Int32.sub_eq_add_neg _ _).symm
def rmc (fw : Nat → Int32) (g : Nat → Int32) (a : Nat) : Bool := !decide (g a = -1) && decide (nI (cnt fw (g a / 2) 12) - nI (cntU g (g a / 2) 12) < 0)
def rmr (Ce : Nat → Bool) (fw : Nat → Int32) (n : Nat) (g : Nat → Int32) (a : Nat) : Bool := !decide (g a < 0) && decide (numB (fun b => if false = true then !decide (g b < 0) && decide (g b / 2 = g a / 2) else Ce b && decide (fw b = g a / 2)) n < numB (fun b => if true = true then !decide (g b < 0) && decide (g b / 2 = g a / 2) else Ce b && decide (fw b = g a / 2)) n)

theorem d_Sw_removeSurplus_0 : decode b_Sw_removeSurplus 0 = .ok (.aload_n 0, 1) := by decide +kernel
theorem d_Sw_removeSurplus_1 : decode b_Sw_removeSurplus 1 = .ok (.getfield 13, 3) := by decide +kernel
theorem d_Sw_removeSurplus_4 : decode b_Sw_removeSurplus 4 = .ok (.getfield 57, 3) := by decide +kernel
theorem d_Sw_removeSurplus_7 : decode b_Sw_removeSurplus 7 = .ok (.iconst 1, 1) := by decide +kernel
theorem d_Sw_removeSurplus_8 : decode b_Sw_removeSurplus 8 = .ok (.isub, 1) := by decide +kernel
theorem d_Sw_removeSurplus_9 : decode b_Sw_removeSurplus 9 = .ok (.istore_n 1, 1) := by decide +kernel
theorem d_Sw_removeSurplus_10 : decode b_Sw_removeSurplus 10 = .ok (.iload_n 1, 1) := by decide +kernel
theorem d_Sw_removeSurplus_11 : decode b_Sw_removeSurplus 11 = .ok (.ifCond .lt 48, 3) := by decide +kernel
theorem d_Sw_removeSurplus_14 : decode b_Sw_removeSurplus 14 = .ok (.aload_n 0, 1) := by decide +kernel
theorem d_Sw_removeSurplus_15 : decode b_Sw_removeSurplus 15 = .ok (.getfield 19, 3) := by decide +kernel
theorem d_Sw_removeSurplus_18 : decode b_Sw_removeSurplus 18 = .ok (.iload_n 1, 1) := by decide +kernel
theorem d_Sw_removeSurplus_19 : decode b_Sw_removeSurplus 19 = .ok (.invokevirtual 78, 3) := by decide +kernel
theorem d_Sw_removeSurplus_22 : decode b_Sw_removeSurplus 22 = .ok (.ifCond .eq 31, 3) := by decide +kernel
theorem d_Sw_removeSurplus_25 : decode b_Sw_removeSurplus 25 = .ok (.aload_n 0, 1) := by decide +kernel
theorem d_Sw_removeSurplus_26 : decode b_Sw_removeSurplus 26 = .ok (.getfield 19, 3) := by decide +kernel
theorem d_Sw_removeSurplus_29 : decode b_Sw_removeSurplus 29 = .ok (.aload_n 0, 1) := by decide +kernel
theorem d_Sw_removeSurplus_30 : decode b_Sw_removeSurplus 30 = .ok (.getfield 19, 3) := by decide +kernel
theorem d_Sw_removeSurplus_33 : decode b_Sw_removeSurplus 33 = .ok (.iload_n 1, 1) := by decide +kernel
theorem d_Sw_removeSurplus_34 : decode b_Sw_removeSurplus 34 = .ok (.invokevirtual 100, 3) := by decide +kernel
theorem d_Sw_removeSurplus_37 : decode b_Sw_removeSurplus 37 = .ok (.invokevirtual 223, 3) := by decide +kernel
theorem d_Sw_removeSurplus_40 : decode b_Sw_removeSurplus 40 = .ok (.ifCond .ge 13, 3) := by decide +kernel
theorem d_Sw_removeSurplus_43 : decode b_Sw_removeSurplus 43 = .ok (.aload_n 0, 1) := by decide +kernel
theorem d_Sw_removeSurplus_44 : decode b_Sw_removeSurplus 44 = .ok (.getfield 19, 3) := by decide +kernel
theorem d_Sw_removeSurplus_47 : decode b_Sw_removeSurplus 47 = .ok (.getfield 84, 3) := by decide +kernel
theorem d_Sw_removeSurplus_50 : decode b_Sw_removeSurplus 50 = .ok (.iload_n 1, 1) := by decide +kernel
theorem d_Sw_removeSurplus_51 : decode b_Sw_removeSurplus 51 = .ok (.iconst (-1), 1) := by decide +kernel
theorem d_Sw_removeSurplus_52 : decode b_Sw_removeSurplus 52 = .ok (.iastore, 1) := by decide +kernel
theorem d_Sw_removeSurplus_53 : decode b_Sw_removeSurplus 53 = .ok (.iinc 1 (-1), 3) := by decide +kernel
theorem d_Sw_removeSurplus_56 : decode b_Sw_removeSurplus 56 = .ok (.goto (-46), 3) := by decide +kernel
theorem d_Sw_removeSurplus_59 : decode b_Sw_removeSurplus 59 = .ok (.return_, 1) := by decide +kernel

set_option maxHeartbeats 4000000 in
set_option maxRecDepth 100000 in
theorem c_Sw_removeSurplus (l : Launch) (D : va_G) (cI cZ cJ cS : ClassId) (aT : Nat) (ceT : Cell) (sz : Nat) (h0 hm hh he ha hp : Nat) (ph : Int32) (qh qn n : Nat) (S Ce : Nat → Bool) (tn : Int32) (qu qo qx qy qr qw : Nat) (fu fw : Nat → Int32) (hn : n ≤ 12) : Met l y_Sw_removeSurplus w_Sw_removeSurplus ({ frames := 3, cells := 0, slots := 0, locals := 65 }) (tH D cI cZ cJ cS aT ceT [.ref h0] sz [(h0, .inr (5, [.ref hm, .ref hh, .ref he, .ref ha, .ref hp, .int ph])), (hm, .inr (4, [.int (nI n), .int (mI S), .int (mI Ce), .ref qh, .ref qn])), (hh, .inr (3, [.int tn, .ref qu, .ref qo, .ref qx, .ref qy, .ref qr, .ref qw])), (qu, .inl (cI, 12, .inl fu)), (qw, .inl (cI, 12, .inl fw))]) (va_Qv (fun _ : Unit => True) (fun _ t => tB D (va_A [(h0, .inr (5, [.ref hm, .ref hh, .ref he, .ref ha, .ref hp, .int ph])), (hm, .inr (4, [.int (nI n), .int (mI S), .int (mI Ce), .ref qh, .ref qn])), (hh, .inr (3, [.int tn, .ref qu, .ref qo, .ref qx, .ref qy, .ref qr, .ref qw])), (qu, .inl (cI, 12, .inl fu)), (qw, .inl (cI, 12, .inl fw))] sz) [(h0, .inr (5, [.ref hm, .ref hh, .ref he, .ref ha, .ref hp, .int ph])), (hm, .inr (4, [.int (nI n), .int (mI S), .int (mI Ce), .ref qh, .ref qn])), (hh, .inr (3, [.int tn, .ref qu, .ref qo, .ref qx, .ref qy, .ref qr, .ref qw])), (qu, .inl (cI, 12, .inl (rmP (rmc fw) fu n n))), (qw, .inl (cI, 12, .inl fw))] t) (va_A [(h0, .inr (5, [.ref hm, .ref hh, .ref he, .ref ha, .ref hp, .int ph])), (hm, .inr (4, [.int (nI n), .int (mI S), .int (mI Ce), .ref qh, .ref qn])), (hh, .inr (3, [.int tn, .ref qu, .ref qo, .ref qx, .ref qy, .ref qr, .ref qw])), (qu, .inl (cI, 12, .inl fu)), (qw, .inl (cI, 12, .inl fw))] sz)) 0 0 (va_A [(h0, .inr (5, [.ref hm, .ref hh, .ref he, .ref ha, .ref hp, .int ph])), (hm, .inr (4, [.int (nI n), .int (mI S), .int (mI Ce), .ref qh, .ref qn])), (hh, .inr (3, [.int tn, .ref qu, .ref qo, .ref qx, .ref qy, .ref qr, .ref qw])), (qu, .inl (cI, 12, .inl fu)), (qw, .inl (cI, 12, .inl fw))] sz) := by
  refine Met.ofW (cc := b_Sw_removeSurplus) (maxL := 2) (ret := none) (by decide) rfl ?_
  intro p e s m args below meth c s₁ B hml hv
  obtain ⟨rfl, hsz, hP, hK, hD0, hX⟩ := hv
  have hx := B.exec
  have hb := B.bytes
  have hr := B.returns
  have hts0 := atoms_spec (ws := w_Sw_removeSurplus) B.pre
  have hts : ∀ w ∈ TB, w.before _ s = true := fun w h => hts0 w (List.mem_cons_of_mem _ h)
  have hown : s.vm.findClass R_Sw = some m.cls := findClass_of_methodNamed B.named
  have hlocks := B.notSynchronized
  subst hsz
  have hXl := tx_lt hX
  have hXn := tx_far hP hX
  have hD := hD0.self (sz := s.heap.size)
  generalize hAe : va_A [(h0, .inr (5, [.ref hm, .ref hh, .ref he, .ref ha, .ref hp, .int ph])), (hm, .inr (4, [.int (nI n), .int (mI S), .int (mI Ce), .ref qh, .ref qn])), (hh, .inr (3, [.int tn, .ref qu, .ref qo, .ref qx, .ref qy, .ref qr, .ref qw])), (qu, .inl (cI, 12, .inl fu)), (qw, .inl (cI, 12, .inl fw))] s.heap.size = A at hD hXn ⊢
  have hA : ∀ q : Nat, s.heap.size ≤ q → A q := fun q h => by rw [← hAe]; exact Or.inr h
  have hS : va_S A s.heap s.heap [] := va_S.rf
  have hXH : s.heap[aT]? = s.heap[aT]? := rfl
  have hl := lv_entry ([.ref h0]) (n := 2) (Nat.le_of_ble_eq_true rfl)
  rw [lg_entry_eq]
  generalize (lg_sl ([.ref h0]) ++ List.replicate (2 - (lg_sl ([.ref h0])).length) Slot.unset).toArray = ls at hl ⊢
  have hl : lv_has ls 2 [(0, .ref h0)] := hl
  refine lv_aload_n hx hb d_Sw_removeSurplus_0 rfl (lv_at hl 0 rfl) ?_
  refine va_get (D := D) (ci := 5) (v := .ref hm) (C := R_Sw) (T := T_Sw) (N := 6) hx hb hts hin_Sw hown hK hP 0 rfl rfl 0 (by decide) (hts _ wd_201) (fun _ h9 => h9) rfl d_Sw_removeSurplus_1 ?_
  refine va_get (D := D) (ci := 4) (v := .int (nI n)) (C := R_Wm) (T := T_Wm) (N := 5) hx hb hts hin_Wm hown hK hP 1 rfl rfl 0 (by decide) (hts _ wd_32) (fun _ h9 => h9) rfl d_Sw_removeSurplus_4 ?_
  refine lv_iconst (v := 1) hx hb d_Sw_removeSurplus_7 (by decide) ?_
  refine lv_isub hx hb d_Sw_removeSurplus_8 ?_
  refine lv_istore_n (lv' := [(1, .int ((nI n) - 1)), (0, .ref h0)]) hx hb d_Sw_removeSurplus_9 rfl hl (by decide) rfl (fun ls hl => ?_)
  have dloop : ∀ (j : Nat) (ls : Array Slot) (H : Heap) (locs : List Loc), j ≤ n → lv_has ls 2 [(1, .int (nI j - 1)), (0, .ref h0)] → va_P D vwCl [(h0, .inr (5, [.ref hm, .ref hh, .ref he, .ref ha, .ref hp, .int ph])), (hm, .inr (4, [.int (nI n), .int (mI S), .int (mI Ce), .ref qh, .ref qn])), (hh, .inr (3, [.int tn, .ref qu, .ref qo, .ref qx, .ref qy, .ref qr, .ref qw])), (qu, .inl (cI, 12, .inl (rmP (rmc fw) fu n (n - j)))), (qw, .inl (cI, 12, .inl fw))] H → va_D A [(h0, .inr (5, [.ref hm, .ref hh, .ref he, .ref ha, .ref hp, .int ph])), (hm, .inr (4, [.int (nI n), .int (mI S), .int (mI Ce), .ref qh, .ref qn])), (hh, .inr (3, [.int tn, .ref qu, .ref qo, .ref qx, .ref qy, .ref qr, .ref qw])), (qu, .inl (cI, 12, .inl (rmP (rmc fw) fu n (n - j)))), (qw, .inl (cI, 12, .inl fw))] → va_S A s.heap H locs → W p l e (headSpec w_Sw_removeSurplus ({ frames := 3, cells := 0, slots := 0, locals := 65 })).room s m ([.ref h0]).toArray below meth c H locs 0 0 (MQ below (va_Qv (fun _ : Unit => True) (fun _ t => tB D A [(h0, .inr (5, [.ref hm, .ref hh, .ref he, .ref ha, .ref hp, .int ph])), (hm, .inr (4, [.int (nI n), .int (mI S), .int (mI Ce), .ref qh, .ref qn])), (hh, .inr (3, [.int tn, .ref qu, .ref qo, .ref qx, .ref qy, .ref qr, .ref qw])), (qu, .inl (cI, 12, .inl (rmP (rmc fw) fu n n))), (qw, .inl (cI, 12, .inl fw))] t) A) ([.ref h0]).toArray s 0 0 A) (F0 m 10 ls []) := by
    intro j
    induction j with
    | zero =>
      intro ls H locs hjn hl hP hD hS
      rw [show nI 0 - 1 = (-1 : Int32) by decide] at hl
      rw [Nat.sub_zero] at hP hD
      refine lv_iload_n hx hb d_Sw_removeSurplus_10 rfl (lv_at hl 0 rfl) ?_
      refine lv_if_lt (tgt := 59) hx hb d_Sw_removeSurplus_11 (by decide) (fun _ => ?_) (fun h0 => absurd (by decide) h0)
      have hP9 := hP.sub (ws' := [(h0, .inr (5, [.ref hm, .ref hh, .ref he, .ref ha, .ref hp, .int ph])), (hm, .inr (4, [.int (nI n), .int (mI S), .int (mI Ce), .ref qh, .ref qn])), (hh, .inr (3, [.int tn, .ref qu, .ref qo, .ref qx, .ref qy, .ref qr, .ref qw])), (qu, .inl (cI, 12, .inl (rmP (rmc fw) fu n n))), (qw, .inl (cI, 12, .inl fw))]) [0, 1, 2, 3, 4] rfl
      have hD9 := hD.sub (ws' := [(h0, .inr (5, [.ref hm, .ref hh, .ref he, .ref ha, .ref hp, .int ph])), (hm, .inr (4, [.int (nI n), .int (mI S), .int (mI Ce), .ref qh, .ref qn])), (hh, .inr (3, [.int tn, .ref qu, .ref qo, .ref qx, .ref qy, .ref qr, .ref qw])), (qu, .inl (cI, 12, .inl (rmP (rmc fw) fu n n))), (qw, .inl (cI, 12, .inl fw))]) [0, 1, 2, 3, 4] (by decide) rfl
      exact W.vret hx hb hr (fun t ht hW => ⟨⟨(), rfl, trivial, by rw [ht]; exact hP9, hD9⟩, hS.F ht⟩) hS.2.2 d_Sw_removeSurplus_59
    | succ j ih =>
      intro ls H locs hjn hl hP hD hS
      rw [show nI (j + 1) - 1 = nI j from nI_pre (Nat.succ_ne_zero j)] at hl
      have hj12 : j < 12 := by omega
      have hjl : j < n := hjn
      refine lv_iload_n hx hb d_Sw_removeSurplus_10 rfl (lv_at hl 0 rfl) ?_
      refine lv_if_lt (tgt := 59) hx hb d_Sw_removeSurplus_11 (by decide) (fun h0 => absurd h0 (nI_nn (by omega))) (fun _ => ?_)
      refine lv_aload_n hx hb d_Sw_removeSurplus_14 rfl (lv_at hl 1 rfl) ?_
      refine va_get (D := D) (ci := 5) (v := .ref hh) (C := R_Sw) (T := T_Sw) (N := 6) hx hb hts hin_Sw hown hK hP 0 rfl rfl 1 (by decide) (hts _ wd_202) (fun _ h9 => h9) rfl d_Sw_removeSurplus_15 ?_
      refine lv_iload_n hx hb d_Sw_removeSurplus_18 rfl (lv_at hl 0 rfl) ?_
      have hPc := hP.sub (ws' := [(hh, .inr (3, [.int tn, .ref qu, .ref qo, .ref qx, .ref qy, .ref qr, .ref qw])), (qu, .inl (cI, 12, .inl (rmP (rmc fw) fu n (n - (j + 1)))))]) [2, 3] rfl
      refine vp_callSi (va_Run.run (va_runV (As := [.int (nI j)]) (rest := []) ⟨hx, hb, hml, hown, hts⟩ (c_Sh_hasUnitP l D cI cZ cJ cS aT ceT  hh tn qu qo qx qy qr qw (rmP (rmc fw) fu n (n - (j + 1))) j hj12) (cwV 1 hts (tb_4 wd_286 wd_287 wd_288 wd_3 (tb_c wd_289)) rfl rfl rfl ⟨rfl, by decide, by decide, by decide +kernel⟩ ⟨Nat.le_of_ble_eq_true rfl, Nat.le_of_ble_eq_true rfl⟩) (tP_V hK hX (hS.2.1 aT hXl hXn) hPc (q := 0) rfl rfl) rfl rfl hl.1 rfl (lv_room (Nat.le_of_ble_eq_true rfl)) d_Sw_removeSurplus_19 ⟨Nat.le_of_ble_eq_true rfl, Nat.le_of_ble_eq_true rfl⟩)) (fun r2 hr9 => ?_)
      rw [hr9]
      rcases bI_c (!decide ((rmP (rmc fw) fu n (n - (j + 1))) j = -1)) with ⟨hb4, e9⟩ | ⟨hb4, e9⟩
      · refine tr_top e9 ?_
        refine lv_if_eq (tgt := 53) hx hb d_Sw_removeSurplus_22 (by decide) (fun h0 => absurd h0 (by decide)) (fun _ => ?_)
        refine lv_aload_n hx hb d_Sw_removeSurplus_25 rfl (lv_at hl 1 rfl) ?_
        refine va_get (D := D) (ci := 5) (v := .ref hh) (C := R_Sw) (T := T_Sw) (N := 6) hx hb hts hin_Sw hown hK hP 0 rfl rfl 1 (by decide) (hts _ wd_202) (fun _ h9 => h9) rfl d_Sw_removeSurplus_26 ?_
        refine lv_aload_n hx hb d_Sw_removeSurplus_29 rfl (lv_at hl 1 rfl) ?_
        refine va_get (D := D) (ci := 5) (v := .ref hh) (C := R_Sw) (T := T_Sw) (N := 6) hx hb hts hin_Sw hown hK hP 0 rfl rfl 1 (by decide) (hts _ wd_202) (fun _ h9 => h9) rfl d_Sw_removeSurplus_30 ?_
        refine lv_iload_n hx hb d_Sw_removeSurplus_33 rfl (lv_at hl 0 rfl) ?_
        have hPc := hP.sub (ws' := [(hh, .inr (3, [.int tn, .ref qu, .ref qo, .ref qx, .ref qy, .ref qr, .ref qw])), (qu, .inl (cI, 12, .inl (rmP (rmc fw) fu n (n - (j + 1)))))]) [2, 3] rfl
        refine vp_callSi (va_Run.run (va_runV (As := [.int (nI j)]) (rest := [.ref hh]) ⟨hx, hb, hml, hown, hts⟩ (c_Sh_playerAtP l D cI cZ cJ cS aT ceT  hh tn qu qo qx qy qr qw (rmP (rmc fw) fu n (n - (j + 1))) j hj12) (cwV 1 hts (tb_4 wd_465 wd_312 wd_313 wd_3 (tb_c wd_314)) rfl rfl rfl ⟨rfl, by decide, by decide, by decide +kernel⟩ ⟨Nat.le_of_ble_eq_true rfl, Nat.le_of_ble_eq_true rfl⟩) (tP_V hK hX (hS.2.1 aT hXl hXn) hPc (q := 0) rfl rfl) rfl rfl hl.1 rfl (lv_room (Nat.le_of_ble_eq_true rfl)) d_Sw_removeSurplus_34 ⟨Nat.le_of_ble_eq_true rfl, Nat.le_of_ble_eq_true rfl⟩)) (fun r6 hr9 => ?_)
        rw [hr9]
        have hPc := hP.sub (ws' := [(hh, .inr (3, [.int tn, .ref qu, .ref qo, .ref qx, .ref qy, .ref qr, .ref qw])), (qu, .inl (cI, 12, .inl (rmP (rmc fw) fu n (n - (j + 1))))), (qw, .inl (cI, 12, .inl fw))]) [2, 3, 4] rfl
        refine vp_callSi (va_Run.run (va_runV (As := [.int ((rmP (rmc fw) fu n (n - (j + 1))) j / 2)]) (rest := []) ⟨hx, hb, hml, hown, hts⟩ (c_Sh_missing l D cI cZ cJ cS aT ceT  hh tn qu qo qx qy qr qw (rmP (rmc fw) fu n (n - (j + 1))) fw ((rmP (rmc fw) fu n (n - (j + 1))) j / 2) ) (cwV 1 hts (tb_4 wd_638 wd_639 wd_640 wd_3 (tb_c wd_641)) rfl rfl rfl ⟨rfl, by decide, by decide, by decide +kernel⟩ ⟨Nat.le_of_ble_eq_true rfl, Nat.le_of_ble_eq_true rfl⟩) (tP_V hK hX (hS.2.1 aT hXl hXn) hPc (q := 0) rfl rfl) rfl rfl hl.1 rfl (lv_room (Nat.le_of_ble_eq_true rfl)) d_Sw_removeSurplus_37 ⟨Nat.le_of_ble_eq_true rfl, Nat.le_of_ble_eq_true rfl⟩)) (fun r7 hr9 => ?_)
        rw [hr9]
        refine lv_if_ge (tgt := 53) hx hb d_Sw_removeSurplus_40 (by decide) (fun hc8 => ?_) (fun hc8 => ?_)
        · -- 40 taken
          have hc8 : ¬ (nI (cnt fw ((rmP (rmc fw) fu n (n - (j + 1))) j / 2) 12) - nI (cntU (rmP (rmc fw) fu n (n - (j + 1))) ((rmP (rmc fw) fu n (n - (j + 1))) j / 2) 12)) < 0 := Int32.not_lt.mpr hc8
          refine lv_iinc (lv' := [(1, .int ((nI j) + (-1))), (0, .ref h0)]) hx hb d_Sw_removeSurplus_53 hl (k := 0) rfl rfl (by decide) rfl (fun ls hl => ?_)
          refine lv_goto (tgt := 10) hx hb d_Sw_removeSurplus_56 (by decide) ?_
          have eo : (rmP (rmc fw) fu n (n - (j + 1))) = (rmP (rmc fw) fu n (n - j)) := rmP_n hjl (by simp [rmc, Int32.not_le, Int32.not_lt, hb4, hc8])
          exact ih ls H locs (by omega) (by rw [← nI_dn]; exact lv_sub hl [0, 1] rfl) (by rw [← eo]; exact hP) (by rw [← eo]; exact hD) hS
        · -- 40 not taken
          have hc8 : (nI (cnt fw ((rmP (rmc fw) fu n (n - (j + 1))) j / 2) 12) - nI (cntU (rmP (rmc fw) fu n (n - (j + 1))) ((rmP (rmc fw) fu n (n - (j + 1))) j / 2) 12)) < 0 := Int32.not_le.mp hc8
          refine lv_aload_n hx hb d_Sw_removeSurplus_43 rfl (lv_at hl 1 rfl) ?_
          refine va_get (D := D) (ci := 5) (v := .ref hh) (C := R_Sw) (T := T_Sw) (N := 6) hx hb hts hin_Sw hown hK hP 0 rfl rfl 1 (by decide) (hts _ wd_202) (fun _ h9 => h9) rfl d_Sw_removeSurplus_44 ?_
          refine va_get (D := D) (ci := 3) (v := .ref qu) (C := R_Sh) (T := T_Sh) (N := 7) hx hb hts hin_Sh hown hK hP 2 rfl rfl 1 (by decide) (hts _ wd_65) (fun _ h9 => h9) rfl d_Sw_removeSurplus_47 ?_
          refine lv_iload_n hx hb d_Sw_removeSurplus_50 rfl (lv_at hl 0 rfl) ?_
          refine lv_iconst (v := (-1)) hx hb d_Sw_removeSurplus_51 (by decide) ?_
          refine tr_iast (g := upd (rmP (rmc fw) fu n (n - (j + 1))) j (-1)) hx hb hK hP hD hS 3 0 rfl rfl j hj12 (by decide) rfl d_Sw_removeSurplus_52 (fun H locs hP hD hS => ?_)
          have hP : va_P D vwCl [(h0, .inr (5, [.ref hm, .ref hh, .ref he, .ref ha, .ref hp, .int ph])), (hm, .inr (4, [.int (nI n), .int (mI S), .int (mI Ce), .ref qh, .ref qn])), (hh, .inr (3, [.int tn, .ref qu, .ref qo, .ref qx, .ref qy, .ref qr, .ref qw])), (qu, .inl (cI, 12, .inl (upd (rmP (rmc fw) fu n (n - (j + 1))) j (-1)))), (qw, .inl (cI, 12, .inl fw))] H := hP
          have hD : va_D A [(h0, .inr (5, [.ref hm, .ref hh, .ref he, .ref ha, .ref hp, .int ph])), (hm, .inr (4, [.int (nI n), .int (mI S), .int (mI Ce), .ref qh, .ref qn])), (hh, .inr (3, [.int tn, .ref qu, .ref qo, .ref qx, .ref qy, .ref qr, .ref qw])), (qu, .inl (cI, 12, .inl (upd (rmP (rmc fw) fu n (n - (j + 1))) j (-1)))), (qw, .inl (cI, 12, .inl fw))] := hD
          refine lv_iinc (lv' := [(1, .int ((nI j) + (-1))), (0, .ref h0)]) hx hb d_Sw_removeSurplus_53 hl (k := 0) rfl rfl (by decide) rfl (fun ls hl => ?_)
          refine lv_goto (tgt := 10) hx hb d_Sw_removeSurplus_56 (by decide) ?_
          have eo : (upd (rmP (rmc fw) fu n (n - (j + 1))) j (-1)) = (rmP (rmc fw) fu n (n - j)) := rmP_y hjl (by simp [rmc, Int32.not_le, Int32.not_lt, hb4, hc8])
          exact ih ls H locs (by omega) (by rw [← nI_dn]; exact lv_sub hl [0, 1] rfl) (by rw [← eo]; exact hP) (by rw [← eo]; exact hD) hS
      · refine tr_top e9 ?_
        refine lv_if_eq (tgt := 53) hx hb d_Sw_removeSurplus_22 (by decide) (fun _ => ?_) (fun h0 => absurd (by decide) h0)
        refine lv_iinc (lv' := [(1, .int ((nI j) + (-1))), (0, .ref h0)]) hx hb d_Sw_removeSurplus_53 hl (k := 0) rfl rfl (by decide) rfl (fun ls hl => ?_)
        refine lv_goto (tgt := 10) hx hb d_Sw_removeSurplus_56 (by decide) ?_
        have eo : (rmP (rmc fw) fu n (n - (j + 1))) = (rmP (rmc fw) fu n (n - j)) := rmP_n hjl (by simp [rmc, Int32.not_le, Int32.not_lt, hb4])
        exact ih ls H locs (by omega) (by rw [← nI_dn]; exact lv_sub hl [0, 1] rfl) (by rw [← eo]; exact hP) (by rw [← eo]; exact hD) hS
  exact dloop n ls _ _ (Nat.le_refl _) hl (by rw [Nat.sub_self]; exact hP) (by rw [Nat.sub_self]; exact hD) hS

theorem d_Mo_endBuilds_0 : decode b_Mo_endBuilds 0 = .ok (.aload_n 0, 1) := by decide +kernel
theorem d_Mo_endBuilds_1 : decode b_Mo_endBuilds 1 = .ok (.getfield 72, 3) := by decide +kernel
theorem d_Mo_endBuilds_4 : decode b_Mo_endBuilds 4 = .ok (.iconst 1, 1) := by decide +kernel
theorem d_Mo_endBuilds_5 : decode b_Mo_endBuilds 5 = .ok (.isub, 1) := by decide +kernel
theorem d_Mo_endBuilds_6 : decode b_Mo_endBuilds 6 = .ok (.istore_n 1, 1) := by decide +kernel
theorem d_Mo_endBuilds_7 : decode b_Mo_endBuilds 7 = .ok (.iload_n 1, 1) := by decide +kernel
theorem d_Mo_endBuilds_8 : decode b_Mo_endBuilds 8 = .ok (.ifCond .lt 52, 3) := by decide +kernel
theorem d_Mo_endBuilds_11 : decode b_Mo_endBuilds 11 = .ok (.aload_n 0, 1) := by decide +kernel
theorem d_Mo_endBuilds_12 : decode b_Mo_endBuilds 12 = .ok (.getfield 26, 3) := by decide +kernel
theorem d_Mo_endBuilds_15 : decode b_Mo_endBuilds 15 = .ok (.iload_n 1, 1) := by decide +kernel
theorem d_Mo_endBuilds_16 : decode b_Mo_endBuilds 16 = .ok (.iaload, 1) := by decide +kernel
theorem d_Mo_endBuilds_17 : decode b_Mo_endBuilds 17 = .ok (.ifCond .ge 6, 3) := by decide +kernel
theorem d_Mo_endBuilds_20 : decode b_Mo_endBuilds 20 = .ok (.goto 34, 3) := by decide +kernel
theorem d_Mo_endBuilds_23 : decode b_Mo_endBuilds 23 = .ok (.aload_n 0, 1) := by decide +kernel
theorem d_Mo_endBuilds_24 : decode b_Mo_endBuilds 24 = .ok (.getfield 26, 3) := by decide +kernel
theorem d_Mo_endBuilds_27 : decode b_Mo_endBuilds 27 = .ok (.iload_n 1, 1) := by decide +kernel
theorem d_Mo_endBuilds_28 : decode b_Mo_endBuilds 28 = .ok (.iaload, 1) := by decide +kernel
theorem d_Mo_endBuilds_29 : decode b_Mo_endBuilds 29 = .ok (.iconst 2, 1) := by decide +kernel
theorem d_Mo_endBuilds_30 : decode b_Mo_endBuilds 30 = .ok (.idiv, 1) := by decide +kernel
theorem d_Mo_endBuilds_31 : decode b_Mo_endBuilds 31 = .ok (.istore_n 2, 1) := by decide +kernel
theorem d_Mo_endBuilds_32 : decode b_Mo_endBuilds 32 = .ok (.aload_n 0, 1) := by decide +kernel
theorem d_Mo_endBuilds_33 : decode b_Mo_endBuilds 33 = .ok (.iload_n 2, 1) := by decide +kernel
theorem d_Mo_endBuilds_34 : decode b_Mo_endBuilds 34 = .ok (.iconst 1, 1) := by decide +kernel
theorem d_Mo_endBuilds_35 : decode b_Mo_endBuilds 35 = .ok (.invokevirtual 195, 3) := by decide +kernel
theorem d_Mo_endBuilds_38 : decode b_Mo_endBuilds 38 = .ok (.aload_n 0, 1) := by decide +kernel
theorem d_Mo_endBuilds_39 : decode b_Mo_endBuilds 39 = .ok (.iload_n 2, 1) := by decide +kernel
theorem d_Mo_endBuilds_40 : decode b_Mo_endBuilds 40 = .ok (.iconst 0, 1) := by decide +kernel
theorem d_Mo_endBuilds_41 : decode b_Mo_endBuilds 41 = .ok (.invokevirtual 195, 3) := by decide +kernel
theorem d_Mo_endBuilds_44 : decode b_Mo_endBuilds 44 = .ok (.if_icmp .le 10, 3) := by decide +kernel
theorem d_Mo_endBuilds_47 : decode b_Mo_endBuilds 47 = .ok (.aload_n 0, 1) := by decide +kernel
theorem d_Mo_endBuilds_48 : decode b_Mo_endBuilds 48 = .ok (.getfield 26, 3) := by decide +kernel
theorem d_Mo_endBuilds_51 : decode b_Mo_endBuilds 51 = .ok (.iload_n 1, 1) := by decide +kernel
theorem d_Mo_endBuilds_52 : decode b_Mo_endBuilds 52 = .ok (.iconst (-1), 1) := by decide +kernel
theorem d_Mo_endBuilds_53 : decode b_Mo_endBuilds 53 = .ok (.iastore, 1) := by decide +kernel
theorem d_Mo_endBuilds_54 : decode b_Mo_endBuilds 54 = .ok (.iinc 1 (-1), 3) := by decide +kernel
theorem d_Mo_endBuilds_57 : decode b_Mo_endBuilds 57 = .ok (.goto (-50), 3) := by decide +kernel
theorem d_Mo_endBuilds_60 : decode b_Mo_endBuilds 60 = .ok (.aload_n 0, 1) := by decide +kernel
theorem d_Mo_endBuilds_61 : decode b_Mo_endBuilds 61 = .ok (.invokevirtual 98, 3) := by decide +kernel
theorem d_Mo_endBuilds_64 : decode b_Mo_endBuilds 64 = .ok (.return_, 1) := by decide +kernel

set_option maxHeartbeats 4000000 in
set_option maxRecDepth 100000 in
theorem c_Mo_endBuilds (l : Launch) (D : va_G) (cI cZ cJ cS : ClassId) (aT : Nat) (ceT : Cell) (sz : Nat) (g0 m_sea m_center m_home m_borders m_owner m_units m_kind m_toX m_toY m_results m_known m_reached m_way m_aside m_origin m_retreats m_contested m_moved m_past : Nat) (n : Nat) (co mp mt msh : Int32) (Ce : Nat → Bool) (fw : Nat → Int32) (fu : Nat → Int32) (Kd : Nat → Nat) (X : Nat → Nat) (Y : Nat → Nat) (hKd : ∀ j, Kd j < 4) (hX9 : ∀ j, X j < 12) (hY9 : ∀ j, Y j < 12) (hn : n ≤ 12) : Met l y_Mo_endBuilds w_Mo_endBuilds ({ frames := 1, cells := 0, slots := 0, locals := 24 }) (tH D cI cZ cJ cS aT ceT [.ref g0] sz [(g0, .inr (6, [.int co, .int (nI n), .ref m_sea, .ref m_center, .ref m_home, .ref m_borders, .int mp, .int mt, .ref m_owner, .ref m_units, .ref m_kind, .ref m_toX, .ref m_toY, .ref m_results, .ref m_known, .ref m_reached, .ref m_way, .ref m_aside, .ref m_origin, .ref m_retreats, .ref m_contested, .ref m_moved, .int msh, .ref m_past])), (m_center, .inl (cZ, 12, .inl (fun j => bI (Ce j)))), (m_owner, .inl (cI, 12, .inl fw)), (m_units, .inl (cI, 12, .inl fu)), (m_kind, .inl (cI, 12, .inl (fun j => nI (Kd j)))), (m_toX, .inl (cI, 12, .inl (fun j => nI (X j)))), (m_toY, .inl (cI, 12, .inl (fun j => nI (Y j))))]) (va_Qv (fun _ : Unit => True) (fun _ t => tB D (va_A [(g0, .inr (6, [.int co, .int (nI n), .ref m_sea, .ref m_center, .ref m_home, .ref m_borders, .int mp, .int mt, .ref m_owner, .ref m_units, .ref m_kind, .ref m_toX, .ref m_toY, .ref m_results, .ref m_known, .ref m_reached, .ref m_way, .ref m_aside, .ref m_origin, .ref m_retreats, .ref m_contested, .ref m_moved, .int msh, .ref m_past])), (m_center, .inl (cZ, 12, .inl (fun j => bI (Ce j)))), (m_owner, .inl (cI, 12, .inl fw)), (m_units, .inl (cI, 12, .inl fu)), (m_kind, .inl (cI, 12, .inl (fun j => nI (Kd j)))), (m_toX, .inl (cI, 12, .inl (fun j => nI (X j)))), (m_toY, .inl (cI, 12, .inl (fun j => nI (Y j))))] sz) [(g0, .inr (6, [.int co, .int (nI n), .ref m_sea, .ref m_center, .ref m_home, .ref m_borders, .int 1, .int (mt + 1), .ref m_owner, .ref m_units, .ref m_kind, .ref m_toX, .ref m_toY, .ref m_results, .ref m_known, .ref m_reached, .ref m_way, .ref m_aside, .ref m_origin, .ref m_retreats, .ref m_contested, .ref m_moved, .int msh, .ref m_past])), (m_center, .inl (cZ, 12, .inl (fun j => bI (Ce j)))), (m_owner, .inl (cI, 12, .inl fw)), (m_units, .inl (cI, 12, .inl (rmP (rmr Ce fw n) fu n n))), (m_kind, .inl (cI, 12, .inl (fun _ => 0))), (m_toX, .inl (cI, 12, .inl (fun _ => 0))), (m_toY, .inl (cI, 12, .inl (fun _ => 0)))] t) (va_A [(g0, .inr (6, [.int co, .int (nI n), .ref m_sea, .ref m_center, .ref m_home, .ref m_borders, .int mp, .int mt, .ref m_owner, .ref m_units, .ref m_kind, .ref m_toX, .ref m_toY, .ref m_results, .ref m_known, .ref m_reached, .ref m_way, .ref m_aside, .ref m_origin, .ref m_retreats, .ref m_contested, .ref m_moved, .int msh, .ref m_past])), (m_center, .inl (cZ, 12, .inl (fun j => bI (Ce j)))), (m_owner, .inl (cI, 12, .inl fw)), (m_units, .inl (cI, 12, .inl fu)), (m_kind, .inl (cI, 12, .inl (fun j => nI (Kd j)))), (m_toX, .inl (cI, 12, .inl (fun j => nI (X j)))), (m_toY, .inl (cI, 12, .inl (fun j => nI (Y j))))] sz)) 0 0 (va_A [(g0, .inr (6, [.int co, .int (nI n), .ref m_sea, .ref m_center, .ref m_home, .ref m_borders, .int mp, .int mt, .ref m_owner, .ref m_units, .ref m_kind, .ref m_toX, .ref m_toY, .ref m_results, .ref m_known, .ref m_reached, .ref m_way, .ref m_aside, .ref m_origin, .ref m_retreats, .ref m_contested, .ref m_moved, .int msh, .ref m_past])), (m_center, .inl (cZ, 12, .inl (fun j => bI (Ce j)))), (m_owner, .inl (cI, 12, .inl fw)), (m_units, .inl (cI, 12, .inl fu)), (m_kind, .inl (cI, 12, .inl (fun j => nI (Kd j)))), (m_toX, .inl (cI, 12, .inl (fun j => nI (X j)))), (m_toY, .inl (cI, 12, .inl (fun j => nI (Y j))))] sz) := by
  refine Met.ofW (cc := b_Mo_endBuilds) (maxL := 3) (ret := none) (by decide) rfl ?_
  intro p e s m args below meth c s₁ B hml hv
  obtain ⟨rfl, hsz, hP, hK, hD0, hX⟩ := hv
  have hx := B.exec
  have hb := B.bytes
  have hr := B.returns
  have hts0 := atoms_spec (ws := w_Mo_endBuilds) B.pre
  have hts : ∀ w ∈ TB, w.before _ s = true := fun w h => hts0 w (List.mem_cons_of_mem _ h)
  have hown : s.vm.findClass R_Mo = some m.cls := findClass_of_methodNamed B.named
  have hlocks := B.notSynchronized
  subst hsz
  have hXl := tx_lt hX
  have hXn := tx_far hP hX
  have hD := hD0.self (sz := s.heap.size)
  generalize hAe : va_A [(g0, .inr (6, [.int co, .int (nI n), .ref m_sea, .ref m_center, .ref m_home, .ref m_borders, .int mp, .int mt, .ref m_owner, .ref m_units, .ref m_kind, .ref m_toX, .ref m_toY, .ref m_results, .ref m_known, .ref m_reached, .ref m_way, .ref m_aside, .ref m_origin, .ref m_retreats, .ref m_contested, .ref m_moved, .int msh, .ref m_past])), (m_center, .inl (cZ, 12, .inl (fun j => bI (Ce j)))), (m_owner, .inl (cI, 12, .inl fw)), (m_units, .inl (cI, 12, .inl fu)), (m_kind, .inl (cI, 12, .inl (fun j => nI (Kd j)))), (m_toX, .inl (cI, 12, .inl (fun j => nI (X j)))), (m_toY, .inl (cI, 12, .inl (fun j => nI (Y j))))] s.heap.size = A at hD hXn ⊢
  have hA : ∀ q : Nat, s.heap.size ≤ q → A q := fun q h => by rw [← hAe]; exact Or.inr h
  have hS : va_S A s.heap s.heap [] := va_S.rf
  have hXH : s.heap[aT]? = s.heap[aT]? := rfl
  have hl := lv_entry ([.ref g0]) (n := 3) (Nat.le_of_ble_eq_true rfl)
  rw [lg_entry_eq]
  generalize (lg_sl ([.ref g0]) ++ List.replicate (3 - (lg_sl ([.ref g0])).length) Slot.unset).toArray = ls at hl ⊢
  have hl : lv_has ls 3 [(0, .ref g0)] := hl
  refine lv_aload_n hx hb d_Mo_endBuilds_0 rfl (lv_at hl 0 rfl) ?_
  refine va_get (D := D) (ci := 6) (v := .int (nI n)) (C := R_Mo) (T := T_Mo) (N := 24) hx hb hts hin_Mo hown hK hP 0 rfl rfl 1 (by decide) (hts _ wd_705) (fun _ h9 => h9) rfl d_Mo_endBuilds_1 ?_
  refine lv_iconst (v := 1) hx hb d_Mo_endBuilds_4 (by decide) ?_
  refine lv_isub hx hb d_Mo_endBuilds_5 ?_
  refine lv_istore_n (lv' := [(1, .int ((nI n) - 1)), (0, .ref g0)]) hx hb d_Mo_endBuilds_6 rfl hl (by decide) rfl (fun ls hl => ?_)
  have dloop : ∀ (j : Nat) (ls : Array Slot) (H : Heap) (locs : List Loc), j ≤ n → lv_has ls 3 [(1, .int (nI j - 1)), (0, .ref g0)] → va_P D vwCl [(g0, .inr (6, [.int co, .int (nI n), .ref m_sea, .ref m_center, .ref m_home, .ref m_borders, .int mp, .int mt, .ref m_owner, .ref m_units, .ref m_kind, .ref m_toX, .ref m_toY, .ref m_results, .ref m_known, .ref m_reached, .ref m_way, .ref m_aside, .ref m_origin, .ref m_retreats, .ref m_contested, .ref m_moved, .int msh, .ref m_past])), (m_center, .inl (cZ, 12, .inl (fun j => bI (Ce j)))), (m_owner, .inl (cI, 12, .inl fw)), (m_units, .inl (cI, 12, .inl (rmP (rmr Ce fw n) fu n (n - j)))), (m_kind, .inl (cI, 12, .inl (fun j => nI (Kd j)))), (m_toX, .inl (cI, 12, .inl (fun j => nI (X j)))), (m_toY, .inl (cI, 12, .inl (fun j => nI (Y j))))] H → va_D A [(g0, .inr (6, [.int co, .int (nI n), .ref m_sea, .ref m_center, .ref m_home, .ref m_borders, .int mp, .int mt, .ref m_owner, .ref m_units, .ref m_kind, .ref m_toX, .ref m_toY, .ref m_results, .ref m_known, .ref m_reached, .ref m_way, .ref m_aside, .ref m_origin, .ref m_retreats, .ref m_contested, .ref m_moved, .int msh, .ref m_past])), (m_center, .inl (cZ, 12, .inl (fun j => bI (Ce j)))), (m_owner, .inl (cI, 12, .inl fw)), (m_units, .inl (cI, 12, .inl (rmP (rmr Ce fw n) fu n (n - j)))), (m_kind, .inl (cI, 12, .inl (fun j => nI (Kd j)))), (m_toX, .inl (cI, 12, .inl (fun j => nI (X j)))), (m_toY, .inl (cI, 12, .inl (fun j => nI (Y j))))] → va_S A s.heap H locs → W p l e (headSpec w_Mo_endBuilds ({ frames := 1, cells := 0, slots := 0, locals := 24 })).room s m ([.ref g0]).toArray below meth c H locs 0 0 (MQ below (va_Qv (fun _ : Unit => True) (fun _ t => tB D A [(g0, .inr (6, [.int co, .int (nI n), .ref m_sea, .ref m_center, .ref m_home, .ref m_borders, .int 1, .int (mt + 1), .ref m_owner, .ref m_units, .ref m_kind, .ref m_toX, .ref m_toY, .ref m_results, .ref m_known, .ref m_reached, .ref m_way, .ref m_aside, .ref m_origin, .ref m_retreats, .ref m_contested, .ref m_moved, .int msh, .ref m_past])), (m_center, .inl (cZ, 12, .inl (fun j => bI (Ce j)))), (m_owner, .inl (cI, 12, .inl fw)), (m_units, .inl (cI, 12, .inl (rmP (rmr Ce fw n) fu n n))), (m_kind, .inl (cI, 12, .inl (fun _ => 0))), (m_toX, .inl (cI, 12, .inl (fun _ => 0))), (m_toY, .inl (cI, 12, .inl (fun _ => 0)))] t) A) ([.ref g0]).toArray s 0 0 A) (F0 m 7 ls []) := by
    intro j
    induction j with
    | zero =>
      intro ls H locs hjn hl hP hD hS
      rw [show nI 0 - 1 = (-1 : Int32) by decide] at hl
      rw [Nat.sub_zero] at hP hD
      refine lv_iload_n hx hb d_Mo_endBuilds_7 rfl (lv_at hl 0 rfl) ?_
      refine lv_if_lt (tgt := 60) hx hb d_Mo_endBuilds_8 (by decide) (fun _ => ?_) (fun h0 => absurd (by decide) h0)
      refine lv_aload_n hx hb d_Mo_endBuilds_60 rfl (lv_at hl 1 rfl) ?_
      have hPc := hP.sub (ws' := [(g0, .inr (6, [.int co, .int (nI n), .ref m_sea, .ref m_center, .ref m_home, .ref m_borders, .int mp, .int mt, .ref m_owner, .ref m_units, .ref m_kind, .ref m_toX, .ref m_toY, .ref m_results, .ref m_known, .ref m_reached, .ref m_way, .ref m_aside, .ref m_origin, .ref m_retreats, .ref m_contested, .ref m_moved, .int msh, .ref m_past])), (m_kind, .inl (cI, 12, .inl (fun j => nI (Kd j)))), (m_toX, .inl (cI, 12, .inl (fun j => nI (X j)))), (m_toY, .inl (cI, 12, .inl (fun j => nI (Y j))))]) [0, 4, 5, 6] rfl
      have hDc := hD.sub (ws' := [(g0, .inr (6, [.int co, .int (nI n), .ref m_sea, .ref m_center, .ref m_home, .ref m_borders, .int mp, .int mt, .ref m_owner, .ref m_units, .ref m_kind, .ref m_toX, .ref m_toY, .ref m_results, .ref m_known, .ref m_reached, .ref m_way, .ref m_aside, .ref m_origin, .ref m_retreats, .ref m_contested, .ref m_moved, .int msh, .ref m_past])), (m_kind, .inl (cI, 12, .inl (fun j => nI (Kd j)))), (m_toX, .inl (cI, 12, .inl (fun j => nI (X j)))), (m_toY, .inl (cI, 12, .inl (fun j => nI (Y j))))]) [0, 4, 5, 6] (by decide) rfl
      have hFc := va_free (wc := [(g0, .inr (6, [.int co, .int (nI n), .ref m_sea, .ref m_center, .ref m_home, .ref m_borders, .int mp, .int mt, .ref m_owner, .ref m_units, .ref m_kind, .ref m_toX, .ref m_toY, .ref m_results, .ref m_known, .ref m_reached, .ref m_way, .ref m_aside, .ref m_origin, .ref m_retreats, .ref m_contested, .ref m_moved, .int msh, .ref m_past])), (m_kind, .inl (cI, 12, .inl (fun j => nI (Kd j)))), (m_toX, .inl (cI, 12, .inl (fun j => nI (X j)))), (m_toY, .inl (cI, 12, .inl (fun j => nI (Y j))))]) hD hS hA [0, 4, 5, 6] rfl
      refine va_callv (va_runV (As := []) (rest := []) ⟨hx, hb, hml, hown, hts⟩ (c_Mo_nextTurn l D cI cZ cJ cS aT ceT H.size g0 m_sea m_center m_home m_borders m_owner m_units m_kind m_toX m_toY m_results m_known m_reached m_way m_aside m_origin m_retreats m_contested m_moved m_past co (nI n) mp mt msh (fun j => nI (Kd j)) (fun j => nI (X j)) (fun j => nI (Y j)) ) (cwV 0 hts (tb_4 wd_817 wd_819 wp_40 wd_8 (tb_c wd_820)) rfl rfl rfl ⟨rfl, by decide, by decide, by decide +kernel⟩ ⟨Nat.le_of_ble_eq_true rfl, Nat.le_of_ble_eq_true rfl⟩) (tH_V hK hX (hS.2.1 aT hXl hXn) hPc hDc (q := 0) rfl rfl) rfl rfl hl.1 rfl (lv_room (Nat.le_of_ble_eq_true rfl)) d_Mo_endBuilds_61 ⟨Nat.le_of_ble_eq_true rfl, Nat.le_of_ble_eq_true rfl⟩) hS (fun q _ h => hFc q h) hFc (fun u t H1 locs ht hvm h9 hB hz1 hk1 hS => ?_)
      obtain ⟨hP1, hD1⟩ := hB
      rw [ht] at hP1
      obtain ⟨hP, hD⟩ := va_join (wr := [(m_center, .inl (cZ, 12, .inl (fun j => bI (Ce j)))), (m_owner, .inl (cI, 12, .inl fw)), (m_units, .inl (cI, 12, .inl (rmP (rmr Ce fw n) fu n n)))]) (w1 := [(g0, .inr (6, [.int co, .int (nI n), .ref m_sea, .ref m_center, .ref m_home, .ref m_borders, .int 1, .int (mt + 1), .ref m_owner, .ref m_units, .ref m_kind, .ref m_toX, .ref m_toY, .ref m_results, .ref m_known, .ref m_reached, .ref m_way, .ref m_aside, .ref m_origin, .ref m_retreats, .ref m_contested, .ref m_moved, .int msh, .ref m_past])), (m_kind, .inl (cI, 12, .inl (fun _ => 0))), (m_toX, .inl (cI, 12, .inl (fun _ => 0))), (m_toY, .inl (cI, 12, .inl (fun _ => 0)))]) hP hD [0, 4, 5, 6] [1, 2, 3] rfl rfl (by decide) (by decide) hk1 hFc hP1 hD1
      generalize H1 = H at hP hS ⊢
      have hP : va_P D vwCl [(m_center, .inl (cZ, 12, .inl (fun j => bI (Ce j)))), (m_owner, .inl (cI, 12, .inl fw)), (m_units, .inl (cI, 12, .inl (rmP (rmr Ce fw n) fu n n))), (g0, .inr (6, [.int co, .int (nI n), .ref m_sea, .ref m_center, .ref m_home, .ref m_borders, .int 1, .int (mt + 1), .ref m_owner, .ref m_units, .ref m_kind, .ref m_toX, .ref m_toY, .ref m_results, .ref m_known, .ref m_reached, .ref m_way, .ref m_aside, .ref m_origin, .ref m_retreats, .ref m_contested, .ref m_moved, .int msh, .ref m_past])), (m_kind, .inl (cI, 12, .inl (fun _ => 0))), (m_toX, .inl (cI, 12, .inl (fun _ => 0))), (m_toY, .inl (cI, 12, .inl (fun _ => 0)))] H := hP
      have hD : va_D A [(m_center, .inl (cZ, 12, .inl (fun j => bI (Ce j)))), (m_owner, .inl (cI, 12, .inl fw)), (m_units, .inl (cI, 12, .inl (rmP (rmr Ce fw n) fu n n))), (g0, .inr (6, [.int co, .int (nI n), .ref m_sea, .ref m_center, .ref m_home, .ref m_borders, .int 1, .int (mt + 1), .ref m_owner, .ref m_units, .ref m_kind, .ref m_toX, .ref m_toY, .ref m_results, .ref m_known, .ref m_reached, .ref m_way, .ref m_aside, .ref m_origin, .ref m_retreats, .ref m_contested, .ref m_moved, .int msh, .ref m_past])), (m_kind, .inl (cI, 12, .inl (fun _ => 0))), (m_toX, .inl (cI, 12, .inl (fun _ => 0))), (m_toY, .inl (cI, 12, .inl (fun _ => 0)))] := hD
      have hP9 := hP.sub (ws' := [(g0, .inr (6, [.int co, .int (nI n), .ref m_sea, .ref m_center, .ref m_home, .ref m_borders, .int 1, .int (mt + 1), .ref m_owner, .ref m_units, .ref m_kind, .ref m_toX, .ref m_toY, .ref m_results, .ref m_known, .ref m_reached, .ref m_way, .ref m_aside, .ref m_origin, .ref m_retreats, .ref m_contested, .ref m_moved, .int msh, .ref m_past])), (m_center, .inl (cZ, 12, .inl (fun j => bI (Ce j)))), (m_owner, .inl (cI, 12, .inl fw)), (m_units, .inl (cI, 12, .inl (rmP (rmr Ce fw n) fu n n))), (m_kind, .inl (cI, 12, .inl (fun _ => 0))), (m_toX, .inl (cI, 12, .inl (fun _ => 0))), (m_toY, .inl (cI, 12, .inl (fun _ => 0)))]) [3, 0, 1, 2, 4, 5, 6] rfl
      have hD9 := hD.sub (ws' := [(g0, .inr (6, [.int co, .int (nI n), .ref m_sea, .ref m_center, .ref m_home, .ref m_borders, .int 1, .int (mt + 1), .ref m_owner, .ref m_units, .ref m_kind, .ref m_toX, .ref m_toY, .ref m_results, .ref m_known, .ref m_reached, .ref m_way, .ref m_aside, .ref m_origin, .ref m_retreats, .ref m_contested, .ref m_moved, .int msh, .ref m_past])), (m_center, .inl (cZ, 12, .inl (fun j => bI (Ce j)))), (m_owner, .inl (cI, 12, .inl fw)), (m_units, .inl (cI, 12, .inl (rmP (rmr Ce fw n) fu n n))), (m_kind, .inl (cI, 12, .inl (fun _ => 0))), (m_toX, .inl (cI, 12, .inl (fun _ => 0))), (m_toY, .inl (cI, 12, .inl (fun _ => 0)))]) [3, 0, 1, 2, 4, 5, 6] (by decide) rfl
      exact W.vret hx hb hr (fun t ht hW => ⟨⟨(), rfl, trivial, by rw [ht]; exact hP9, hD9⟩, hS.F ht⟩) hS.2.2 d_Mo_endBuilds_64
    | succ j ih =>
      intro ls H locs hjn hl hP hD hS
      rw [show nI (j + 1) - 1 = nI j from nI_pre (Nat.succ_ne_zero j)] at hl
      have hj12 : j < 12 := by omega
      have hjl : j < n := hjn
      refine lv_iload_n hx hb d_Mo_endBuilds_7 rfl (lv_at hl 0 rfl) ?_
      refine lv_if_lt (tgt := 60) hx hb d_Mo_endBuilds_8 (by decide) (fun h0 => absurd h0 (nI_nn (by omega))) (fun _ => ?_)
      refine lv_aload_n hx hb d_Mo_endBuilds_11 rfl (lv_at hl 1 rfl) ?_
      refine va_get (D := D) (ci := 6) (v := .ref m_units) (C := R_Mo) (T := T_Mo) (N := 24) hx hb hts hin_Mo hown hK hP 0 rfl rfl 9 (by decide) (hts _ wd_713) (fun _ h9 => h9) rfl d_Mo_endBuilds_12 ?_
      refine lv_iload_n hx hb d_Mo_endBuilds_15 rfl (lv_at hl 0 rfl) ?_
      refine tr_iald (v := (rmP (rmr Ce fw n) fu n (n - (j + 1))) j) hx hb hK hP 3 0 rfl rfl j hj12 (by decide) rfl d_Mo_endBuilds_16 ?_
      refine lv_if_ge (tgt := 23) hx hb d_Mo_endBuilds_17 (by decide) (fun hc2 => ?_) (fun hc2 => ?_)
      · -- 17 taken
        have hc2 : ¬ ((rmP (rmr Ce fw n) fu n (n - (j + 1))) j) < 0 := Int32.not_lt.mpr hc2
        refine lv_aload_n hx hb d_Mo_endBuilds_23 rfl (lv_at hl 1 rfl) ?_
        refine va_get (D := D) (ci := 6) (v := .ref m_units) (C := R_Mo) (T := T_Mo) (N := 24) hx hb hts hin_Mo hown hK hP 0 rfl rfl 9 (by decide) (hts _ wd_713) (fun _ h9 => h9) rfl d_Mo_endBuilds_24 ?_
        refine lv_iload_n hx hb d_Mo_endBuilds_27 rfl (lv_at hl 0 rfl) ?_
        refine tr_iald (v := (rmP (rmr Ce fw n) fu n (n - (j + 1))) j) hx hb hK hP 3 0 rfl rfl j hj12 (by decide) rfl d_Mo_endBuilds_28 ?_
        refine lv_iconst (v := 2) hx hb d_Mo_endBuilds_29 (by decide) ?_
        refine lv_idiv hx hb d_Mo_endBuilds_30 (by decide) ?_
        refine lv_istore_n (lv' := [(2, .int (((rmP (rmr Ce fw n) fu n (n - (j + 1))) j) / 2)), (1, .int (nI j)), (0, .ref g0)]) hx hb d_Mo_endBuilds_31 rfl hl (by decide) rfl (fun ls hl => ?_)
        refine lv_aload_n hx hb d_Mo_endBuilds_32 rfl (lv_at hl 2 rfl) ?_
        refine lv_iload_n hx hb d_Mo_endBuilds_33 rfl (lv_at hl 0 rfl) ?_
        refine lv_iconst (v := 1) hx hb d_Mo_endBuilds_34 (by decide) ?_
        have hPc := hP.sub (ws' := [(g0, .inr (6, [.int co, .int (nI n), .ref m_sea, .ref m_center, .ref m_home, .ref m_borders, .int mp, .int mt, .ref m_owner, .ref m_units, .ref m_kind, .ref m_toX, .ref m_toY, .ref m_results, .ref m_known, .ref m_reached, .ref m_way, .ref m_aside, .ref m_origin, .ref m_retreats, .ref m_contested, .ref m_moved, .int msh, .ref m_past])), (m_center, .inl (cZ, 12, .inl (fun j => bI (Ce j)))), (m_owner, .inl (cI, 12, .inl fw)), (m_units, .inl (cI, 12, .inl (rmP (rmr Ce fw n) fu n (n - (j + 1)))))]) [0, 1, 2, 3] rfl
        refine vp_callSi (va_Run.run (va_runV (As := [.int (((rmP (rmr Ce fw n) fu n (n - (j + 1))) j) / 2), .int 1]) (rest := []) ⟨hx, hb, hml, hown, hts⟩ (c_Mo_counted l D cI cZ cJ cS aT ceT  g0 m_sea m_center m_home m_borders m_owner m_units m_kind m_toX m_toY m_results m_known m_reached m_way m_aside m_origin m_retreats m_contested m_moved m_past n co mp mt msh Ce fw (rmP (rmr Ce fw n) fu n (n - (j + 1))) (((rmP (rmr Ce fw n) fu n (n - (j + 1))) j) / 2) true hn) (cwV 2 hts (tb_4 wd_941 wd_943 wp_69 wd_8 (tb_c wd_944)) rfl rfl rfl ⟨rfl, by decide, by decide, by decide +kernel⟩ ⟨Nat.le_of_ble_eq_true rfl, Nat.le_of_ble_eq_true rfl⟩) (tP_V hK hX (hS.2.1 aT hXl hXn) hPc (q := 0) rfl rfl) rfl rfl hl.1 rfl (lv_room (Nat.le_of_ble_eq_true rfl)) d_Mo_endBuilds_35 ⟨Nat.le_of_ble_eq_true rfl, Nat.le_of_ble_eq_true rfl⟩)) (fun r3 hr9 => ?_)
        rw [hr9]
        refine lv_aload_n hx hb d_Mo_endBuilds_38 rfl (lv_at hl 2 rfl) ?_
        refine lv_iload_n hx hb d_Mo_endBuilds_39 rfl (lv_at hl 0 rfl) ?_
        refine lv_iconst (v := 0) hx hb d_Mo_endBuilds_40 (by decide) ?_
        have hPc := hP.sub (ws' := [(g0, .inr (6, [.int co, .int (nI n), .ref m_sea, .ref m_center, .ref m_home, .ref m_borders, .int mp, .int mt, .ref m_owner, .ref m_units, .ref m_kind, .ref m_toX, .ref m_toY, .ref m_results, .ref m_known, .ref m_reached, .ref m_way, .ref m_aside, .ref m_origin, .ref m_retreats, .ref m_contested, .ref m_moved, .int msh, .ref m_past])), (m_center, .inl (cZ, 12, .inl (fun j => bI (Ce j)))), (m_owner, .inl (cI, 12, .inl fw)), (m_units, .inl (cI, 12, .inl (rmP (rmr Ce fw n) fu n (n - (j + 1)))))]) [0, 1, 2, 3] rfl
        refine vp_callSi (va_Run.run (va_runV (As := [.int (((rmP (rmr Ce fw n) fu n (n - (j + 1))) j) / 2), .int 0]) (rest := [.int (nI (numB (fun b => if true = true then !decide ((rmP (rmr Ce fw n) fu n (n - (j + 1))) b < 0) && decide ((rmP (rmr Ce fw n) fu n (n - (j + 1))) b / 2 = (((rmP (rmr Ce fw n) fu n (n - (j + 1))) j) / 2)) else Ce b && decide (fw b = (((rmP (rmr Ce fw n) fu n (n - (j + 1))) j) / 2))) n))]) ⟨hx, hb, hml, hown, hts⟩ (c_Mo_counted l D cI cZ cJ cS aT ceT  g0 m_sea m_center m_home m_borders m_owner m_units m_kind m_toX m_toY m_results m_known m_reached m_way m_aside m_origin m_retreats m_contested m_moved m_past n co mp mt msh Ce fw (rmP (rmr Ce fw n) fu n (n - (j + 1))) (((rmP (rmr Ce fw n) fu n (n - (j + 1))) j) / 2) false hn) (cwV 2 hts (tb_4 wd_941 wd_943 wp_69 wd_8 (tb_c wd_944)) rfl rfl rfl ⟨rfl, by decide, by decide, by decide +kernel⟩ ⟨Nat.le_of_ble_eq_true rfl, Nat.le_of_ble_eq_true rfl⟩) (tP_V hK hX (hS.2.1 aT hXl hXn) hPc (q := 0) rfl rfl) rfl rfl hl.1 rfl (lv_room (Nat.le_of_ble_eq_true rfl)) d_Mo_endBuilds_41 ⟨Nat.le_of_ble_eq_true rfl, Nat.le_of_ble_eq_true rfl⟩)) (fun r4 hr9 => ?_)
        rw [hr9]
        refine lv_icmp_le (tgt := 54) hx hb d_Mo_endBuilds_44 (by decide) (fun hc5 => ?_) (fun hc5 => ?_)
        · -- 44 taken
          have hc5 : numB (fun b => if true = true then !decide ((rmP (rmr Ce fw n) fu n (n - (j + 1))) b < 0) && decide ((rmP (rmr Ce fw n) fu n (n - (j + 1))) b / 2 = (((rmP (rmr Ce fw n) fu n (n - (j + 1))) j) / 2)) else Ce b && decide (fw b = (((rmP (rmr Ce fw n) fu n (n - (j + 1))) j) / 2))) n ≤ numB (fun b => if false = true then !decide ((rmP (rmr Ce fw n) fu n (n - (j + 1))) b < 0) && decide ((rmP (rmr Ce fw n) fu n (n - (j + 1))) b / 2 = (((rmP (rmr Ce fw n) fu n (n - (j + 1))) j) / 2)) else Ce b && decide (fw b = (((rmP (rmr Ce fw n) fu n (n - (j + 1))) j) / 2))) n := (nI_leI (Nat.lt_trans (Nat.lt_of_le_of_lt (numB_le _ _) (Nat.lt_of_le_of_lt hn (by decide : 12 < 14))) (by decide)) (Nat.lt_trans (Nat.lt_of_le_of_lt (numB_le _ _) (Nat.lt_of_le_of_lt hn (by decide : 12 < 14))) (by decide))).mp hc5
          refine lv_iinc (lv' := [(1, .int ((nI j) + (-1))), (2, .int (((rmP (rmr Ce fw n) fu n (n - (j + 1))) j) / 2)), (0, .ref g0)]) hx hb d_Mo_endBuilds_54 hl (k := 1) rfl rfl (by decide) rfl (fun ls hl => ?_)
          refine lv_goto (tgt := 7) hx hb d_Mo_endBuilds_57 (by decide) ?_
          have eo : (rmP (rmr Ce fw n) fu n (n - (j + 1))) = (rmP (rmr Ce fw n) fu n (n - j)) := rmP_n hjl (by rw [rmr, decide_eq_false (Nat.not_lt.mpr hc5), Bool.and_false])
          exact ih ls H locs (by omega) (by rw [← nI_dn]; exact lv_sub hl [0, 2] rfl) (by rw [← eo]; exact hP) (by rw [← eo]; exact hD) hS
        · -- 44 not taken
          have hc5 : numB (fun b => if false = true then !decide ((rmP (rmr Ce fw n) fu n (n - (j + 1))) b < 0) && decide ((rmP (rmr Ce fw n) fu n (n - (j + 1))) b / 2 = (((rmP (rmr Ce fw n) fu n (n - (j + 1))) j) / 2)) else Ce b && decide (fw b = (((rmP (rmr Ce fw n) fu n (n - (j + 1))) j) / 2))) n < numB (fun b => if true = true then !decide ((rmP (rmr Ce fw n) fu n (n - (j + 1))) b < 0) && decide ((rmP (rmr Ce fw n) fu n (n - (j + 1))) b / 2 = (((rmP (rmr Ce fw n) fu n (n - (j + 1))) j) / 2)) else Ce b && decide (fw b = (((rmP (rmr Ce fw n) fu n (n - (j + 1))) j) / 2))) n := Nat.lt_of_not_le (fun h9 => hc5 ((nI_leI (Nat.lt_trans (Nat.lt_of_le_of_lt (numB_le _ _) (Nat.lt_of_le_of_lt hn (by decide : 12 < 14))) (by decide)) (Nat.lt_trans (Nat.lt_of_le_of_lt (numB_le _ _) (Nat.lt_of_le_of_lt hn (by decide : 12 < 14))) (by decide))).mpr h9))
          refine lv_aload_n hx hb d_Mo_endBuilds_47 rfl (lv_at hl 2 rfl) ?_
          refine va_get (D := D) (ci := 6) (v := .ref m_units) (C := R_Mo) (T := T_Mo) (N := 24) hx hb hts hin_Mo hown hK hP 0 rfl rfl 9 (by decide) (hts _ wd_713) (fun _ h9 => h9) rfl d_Mo_endBuilds_48 ?_
          refine lv_iload_n hx hb d_Mo_endBuilds_51 rfl (lv_at hl 1 rfl) ?_
          refine lv_iconst (v := (-1)) hx hb d_Mo_endBuilds_52 (by decide) ?_
          refine tr_iast (g := upd (rmP (rmr Ce fw n) fu n (n - (j + 1))) j (-1)) hx hb hK hP hD hS 3 0 rfl rfl j hj12 (by decide) rfl d_Mo_endBuilds_53 (fun H locs hP hD hS => ?_)
          have hP : va_P D vwCl [(g0, .inr (6, [.int co, .int (nI n), .ref m_sea, .ref m_center, .ref m_home, .ref m_borders, .int mp, .int mt, .ref m_owner, .ref m_units, .ref m_kind, .ref m_toX, .ref m_toY, .ref m_results, .ref m_known, .ref m_reached, .ref m_way, .ref m_aside, .ref m_origin, .ref m_retreats, .ref m_contested, .ref m_moved, .int msh, .ref m_past])), (m_center, .inl (cZ, 12, .inl (fun j => bI (Ce j)))), (m_owner, .inl (cI, 12, .inl fw)), (m_units, .inl (cI, 12, .inl (upd (rmP (rmr Ce fw n) fu n (n - (j + 1))) j (-1)))), (m_kind, .inl (cI, 12, .inl (fun j => nI (Kd j)))), (m_toX, .inl (cI, 12, .inl (fun j => nI (X j)))), (m_toY, .inl (cI, 12, .inl (fun j => nI (Y j))))] H := hP
          have hD : va_D A [(g0, .inr (6, [.int co, .int (nI n), .ref m_sea, .ref m_center, .ref m_home, .ref m_borders, .int mp, .int mt, .ref m_owner, .ref m_units, .ref m_kind, .ref m_toX, .ref m_toY, .ref m_results, .ref m_known, .ref m_reached, .ref m_way, .ref m_aside, .ref m_origin, .ref m_retreats, .ref m_contested, .ref m_moved, .int msh, .ref m_past])), (m_center, .inl (cZ, 12, .inl (fun j => bI (Ce j)))), (m_owner, .inl (cI, 12, .inl fw)), (m_units, .inl (cI, 12, .inl (upd (rmP (rmr Ce fw n) fu n (n - (j + 1))) j (-1)))), (m_kind, .inl (cI, 12, .inl (fun j => nI (Kd j)))), (m_toX, .inl (cI, 12, .inl (fun j => nI (X j)))), (m_toY, .inl (cI, 12, .inl (fun j => nI (Y j))))] := hD
          refine lv_iinc (lv' := [(1, .int ((nI j) + (-1))), (2, .int (((rmP (rmr Ce fw n) fu n (n - (j + 1))) j) / 2)), (0, .ref g0)]) hx hb d_Mo_endBuilds_54 hl (k := 1) rfl rfl (by decide) rfl (fun ls hl => ?_)
          refine lv_goto (tgt := 7) hx hb d_Mo_endBuilds_57 (by decide) ?_
          have eo : (upd (rmP (rmr Ce fw n) fu n (n - (j + 1))) j (-1)) = (rmP (rmr Ce fw n) fu n (n - j)) := rmP_y hjl (by rw [rmr, decide_eq_true hc5]; simp [hc2])
          exact ih ls H locs (by omega) (by rw [← nI_dn]; exact lv_sub hl [0, 2] rfl) (by rw [← eo]; exact hP) (by rw [← eo]; exact hD) hS
      · -- 17 not taken
        have hc2 : ((rmP (rmr Ce fw n) fu n (n - (j + 1))) j) < 0 := Int32.not_le.mp hc2
        refine lv_goto (tgt := 54) hx hb d_Mo_endBuilds_20 (by decide) ?_
        refine lv_iinc (lv' := [(1, .int ((nI j) + (-1))), (0, .ref g0)]) hx hb d_Mo_endBuilds_54 hl (k := 0) rfl rfl (by decide) rfl (fun ls hl => ?_)
        refine lv_goto (tgt := 7) hx hb d_Mo_endBuilds_57 (by decide) ?_
        have eo : (rmP (rmr Ce fw n) fu n (n - (j + 1))) = (rmP (rmr Ce fw n) fu n (n - j)) := rmP_n hjl (by simp [rmr, hc2])
        exact ih ls H locs (by omega) (by rw [← nI_dn]; exact lv_sub hl [0, 1] rfl) (by rw [← eo]; exact hP) (by rw [← eo]; exact hD) hS
  exact dloop n ls _ _ (Nat.le_refl _) hl (by rw [Nat.sub_self]; exact hP) (by rw [Nat.sub_self]; exact hD) hS
