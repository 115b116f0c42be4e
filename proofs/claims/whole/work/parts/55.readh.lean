theorem d_Se_readHeadOn_0 : decode b_Se_readHeadOn 0 = .ok (.aload_n 0, 1) := by decide +kernel
theorem d_Se_readHeadOn_1 : decode b_Se_readHeadOn 1 = .ok (.getfield 66, 3) := by decide +kernel
theorem d_Se_readHeadOn_4 : decode b_Se_readHeadOn 4 = .ok (.aload_n 0, 1) := by decide +kernel
theorem d_Se_readHeadOn_5 : decode b_Se_readHeadOn 5 = .ok (.getfield 111, 3) := by decide +kernel
theorem d_Se_readHeadOn_8 : decode b_Se_readHeadOn 8 = .ok (.iconst (-1), 1) := by decide +kernel
theorem d_Se_readHeadOn_9 : decode b_Se_readHeadOn 9 = .ok (.ixor, 1) := by decide +kernel
theorem d_Se_readHeadOn_10 : decode b_Se_readHeadOn 10 = .ok (.iand, 1) := by decide +kernel
theorem d_Se_readHeadOn_11 : decode b_Se_readHeadOn 11 = .ok (.istore_n 1, 1) := by decide +kernel
theorem d_Se_readHeadOn_12 : decode b_Se_readHeadOn 12 = .ok (.iconst 0, 1) := by decide +kernel
theorem d_Se_readHeadOn_13 : decode b_Se_readHeadOn 13 = .ok (.istore_n 2, 1) := by decide +kernel
theorem d_Se_readHeadOn_14 : decode b_Se_readHeadOn 14 = .ok (.iload_n 2, 1) := by decide +kernel
theorem d_Se_readHeadOn_15 : decode b_Se_readHeadOn 15 = .ok (.aload_n 0, 1) := by decide +kernel
theorem d_Se_readHeadOn_16 : decode b_Se_readHeadOn 16 = .ok (.getfield 27, 3) := by decide +kernel
theorem d_Se_readHeadOn_19 : decode b_Se_readHeadOn 19 = .ok (.getfield 93, 3) := by decide +kernel
theorem d_Se_readHeadOn_22 : decode b_Se_readHeadOn 22 = .ok (.if_icmp .ge 53, 3) := by decide +kernel
theorem d_Se_readHeadOn_25 : decode b_Se_readHeadOn 25 = .ok (.iload_n 1, 1) := by decide +kernel
theorem d_Se_readHeadOn_26 : decode b_Se_readHeadOn 26 = .ok (.iload_n 2, 1) := by decide +kernel
theorem d_Se_readHeadOn_27 : decode b_Se_readHeadOn 27 = .ok (.invokestatic 83, 3) := by decide +kernel
theorem d_Se_readHeadOn_30 : decode b_Se_readHeadOn 30 = .ok (.ifCond .eq 39, 3) := by decide +kernel
theorem d_Se_readHeadOn_33 : decode b_Se_readHeadOn 33 = .ok (.iload_n 1, 1) := by decide +kernel
theorem d_Se_readHeadOn_34 : decode b_Se_readHeadOn 34 = .ok (.aload_n 0, 1) := by decide +kernel
theorem d_Se_readHeadOn_35 : decode b_Se_readHeadOn 35 = .ok (.getfield 9, 3) := by decide +kernel
theorem d_Se_readHeadOn_38 : decode b_Se_readHeadOn 38 = .ok (.iload_n 2, 1) := by decide +kernel
theorem d_Se_readHeadOn_39 : decode b_Se_readHeadOn 39 = .ok (.iaload, 1) := by decide +kernel
theorem d_Se_readHeadOn_40 : decode b_Se_readHeadOn 40 = .ok (.iand, 1) := by decide +kernel
theorem d_Se_readHeadOn_41 : decode b_Se_readHeadOn 41 = .ok (.aload_n 0, 1) := by decide +kernel
theorem d_Se_readHeadOn_42 : decode b_Se_readHeadOn 42 = .ok (.getfield 31, 3) := by decide +kernel
theorem d_Se_readHeadOn_45 : decode b_Se_readHeadOn 45 = .ok (.getfield 105, 3) := by decide +kernel
theorem d_Se_readHeadOn_48 : decode b_Se_readHeadOn 48 = .ok (.iload_n 2, 1) := by decide +kernel
theorem d_Se_readHeadOn_49 : decode b_Se_readHeadOn 49 = .ok (.iaload, 1) := by decide +kernel
theorem d_Se_readHeadOn_50 : decode b_Se_readHeadOn 50 = .ok (.invokestatic 83, 3) := by decide +kernel
theorem d_Se_readHeadOn_53 : decode b_Se_readHeadOn 53 = .ok (.ifCond .eq 16, 3) := by decide +kernel
theorem d_Se_readHeadOn_56 : decode b_Se_readHeadOn 56 = .ok (.aload_n 0, 1) := by decide +kernel
theorem d_Se_readHeadOn_57 : decode b_Se_readHeadOn 57 = .ok (.dup, 1) := by decide +kernel
theorem d_Se_readHeadOn_58 : decode b_Se_readHeadOn 58 = .ok (.getfield 134, 3) := by decide +kernel
theorem d_Se_readHeadOn_61 : decode b_Se_readHeadOn 61 = .ok (.iload_n 2, 1) := by decide +kernel
theorem d_Se_readHeadOn_62 : decode b_Se_readHeadOn 62 = .ok (.invokestatic 131, 3) := by decide +kernel
theorem d_Se_readHeadOn_65 : decode b_Se_readHeadOn 65 = .ok (.ior, 1) := by decide +kernel
theorem d_Se_readHeadOn_66 : decode b_Se_readHeadOn 66 = .ok (.putfield 134, 3) := by decide +kernel
theorem d_Se_readHeadOn_69 : decode b_Se_readHeadOn 69 = .ok (.iinc 2 1, 3) := by decide +kernel
theorem d_Se_readHeadOn_72 : decode b_Se_readHeadOn 72 = .ok (.goto (-58), 3) := by decide +kernel
theorem d_Se_readHeadOn_75 : decode b_Se_readHeadOn 75 = .ok (.return_, 1) := by decide +kernel

set_option maxHeartbeats 4000000 in
set_option maxRecDepth 100000 in
theorem c_Se_readHeadOn (l : Launch) (D : va_G) (cI cZ cJ cS : ClassId) (aT : Nat) (ceT : Cell) (sz : Nat) (h0 qm qs q1 q2 q3 q4 q5 : Nat) (St Mv Sm Su Op Sd Od Sp Oq : Nat → Bool) (qh qn n : Nat) (S Ce : Nat → Bool) (Mt : Nat → Nat → Bool) (tn : Int32) (qu qo qx qy qr qw : Nat) (X : Nat → Nat) (hX12 : ∀ j, X j < 12) (hn : n ≤ 12) : Met l y_Se_readHeadOn w_Se_readHeadOn ({ frames := 1, cells := 0, slots := 0, locals := 21 }) (tH D cI cZ cJ cS aT ceT [.ref h0] sz [(h0, .inr (2, [.ref qm, .ref qs, .int (mI St), .int (mI Mv), .int (mI Sm), .int (mI (fun _ => false)), .ref q1, .ref q2, .ref q3, .ref q4, .int (mI Su), .int (mI Op), .int (mI Sd), .int (mI Od), .int (mI Sp), .int (mI Oq), .ref q5])), (qm, .inr (4, [.int (nI n), .int (mI S), .int (mI Ce), .ref qh, .ref qn])), (q1, .inl (cI, 12, .inl (fun j => mI (Mt j)))), (qs, .inr (3, [.int tn, .ref qu, .ref qo, .ref qx, .ref qy, .ref qr, .ref qw])), (qx, .inl (cI, 12, .inl (fun j => nI (X j))))]) (va_Qv (fun _ : Unit => True) (fun _ t => tB D (va_A [(h0, .inr (2, [.ref qm, .ref qs, .int (mI St), .int (mI Mv), .int (mI Sm), .int (mI (fun _ => false)), .ref q1, .ref q2, .ref q3, .ref q4, .int (mI Su), .int (mI Op), .int (mI Sd), .int (mI Od), .int (mI Sp), .int (mI Oq), .ref q5])), (qm, .inr (4, [.int (nI n), .int (mI S), .int (mI Ce), .ref qh, .ref qn])), (q1, .inl (cI, 12, .inl (fun j => mI (Mt j)))), (qs, .inr (3, [.int tn, .ref qu, .ref qo, .ref qx, .ref qy, .ref qr, .ref qw])), (qx, .inl (cI, 12, .inl (fun j => nI (X j))))] sz) [(h0, .inr (2, [.ref qm, .ref qs, .int (mI St), .int (mI Mv), .int (mI Sm), .int (mI (upTo (hoR Mv Sm Mt X) n)), .ref q1, .ref q2, .ref q3, .ref q4, .int (mI Su), .int (mI Op), .int (mI Sd), .int (mI Od), .int (mI Sp), .int (mI Oq), .ref q5])), (qm, .inr (4, [.int (nI n), .int (mI S), .int (mI Ce), .ref qh, .ref qn])), (q1, .inl (cI, 12, .inl (fun j => mI (Mt j)))), (qs, .inr (3, [.int tn, .ref qu, .ref qo, .ref qx, .ref qy, .ref qr, .ref qw])), (qx, .inl (cI, 12, .inl (fun j => nI (X j))))] t) (va_A [(h0, .inr (2, [.ref qm, .ref qs, .int (mI St), .int (mI Mv), .int (mI Sm), .int (mI (fun _ => false)), .ref q1, .ref q2, .ref q3, .ref q4, .int (mI Su), .int (mI Op), .int (mI Sd), .int (mI Od), .int (mI Sp), .int (mI Oq), .ref q5])), (qm, .inr (4, [.int (nI n), .int (mI S), .int (mI Ce), .ref qh, .ref qn])), (q1, .inl (cI, 12, .inl (fun j => mI (Mt j)))), (qs, .inr (3, [.int tn, .ref qu, .ref qo, .ref qx, .ref qy, .ref qr, .ref qw])), (qx, .inl (cI, 12, .inl (fun j => nI (X j))))] sz)) 0 0 (va_A [(h0, .inr (2, [.ref qm, .ref qs, .int (mI St), .int (mI Mv), .int (mI Sm), .int (mI (fun _ => false)), .ref q1, .ref q2, .ref q3, .ref q4, .int (mI Su), .int (mI Op), .int (mI Sd), .int (mI Od), .int (mI Sp), .int (mI Oq), .ref q5])), (qm, .inr (4, [.int (nI n), .int (mI S), .int (mI Ce), .ref qh, .ref qn])), (q1, .inl (cI, 12, .inl (fun j => mI (Mt j)))), (qs, .inr (3, [.int tn, .ref qu, .ref qo, .ref qx, .ref qy, .ref qr, .ref qw])), (qx, .inl (cI, 12, .inl (fun j => nI (X j))))] sz) := by
  refine Met.ofW (cc := b_Se_readHeadOn) (maxL := 3) (ret := none) (by decide) rfl ?_
  intro p e s m args below meth c s₁ B hml hv
  obtain ⟨rfl, hsz, hP, hK, hD0, hX⟩ := hv
  have hx := B.exec
  have hb := B.bytes
  have hr := B.returns
  have hts0 := atoms_spec (ws := w_Se_readHeadOn) B.pre
  have hts : ∀ w ∈ TB, w.before _ s = true := fun w h => hts0 w (List.mem_cons_of_mem _ h)
  have hown : s.vm.findClass R_Se = some m.cls := findClass_of_methodNamed B.named
  have hlocks := B.notSynchronized
  subst hsz
  have hXl := tx_lt hX
  have hXn := tx_far hP hX
  have hD := hD0.self (sz := s.heap.size)
  generalize hAe : va_A [(h0, .inr (2, [.ref qm, .ref qs, .int (mI St), .int (mI Mv), .int (mI Sm), .int (mI (fun _ => false)), .ref q1, .ref q2, .ref q3, .ref q4, .int (mI Su), .int (mI Op), .int (mI Sd), .int (mI Od), .int (mI Sp), .int (mI Oq), .ref q5])), (qm, .inr (4, [.int (nI n), .int (mI S), .int (mI Ce), .ref qh, .ref qn])), (q1, .inl (cI, 12, .inl (fun j => mI (Mt j)))), (qs, .inr (3, [.int tn, .ref qu, .ref qo, .ref qx, .ref qy, .ref qr, .ref qw])), (qx, .inl (cI, 12, .inl (fun j => nI (X j))))] s.heap.size = A at hD hXn ⊢
  have hA : ∀ q : Nat, s.heap.size ≤ q → A q := fun q h => by rw [← hAe]; exact Or.inr h
  have hS : va_S A s.heap s.heap [] := va_S.rf
  have hXH : s.heap[aT]? = s.heap[aT]? := rfl
  have hl := lv_entry ([.ref h0]) (n := 3) (Nat.le_of_ble_eq_true rfl)
  rw [lg_entry_eq]
  generalize (lg_sl ([.ref h0]) ++ List.replicate (3 - (lg_sl ([.ref h0])).length) Slot.unset).toArray = ls at hl ⊢
  have hl : lv_has ls 3 [(0, .ref h0)] := hl
  refine lv_aload_n hx hb d_Se_readHeadOn_0 rfl (lv_at hl 0 rfl) ?_
  refine va_get (D := D) (ci := 2) (v := .int (mI Mv)) (C := R_Se) (T := T_Se) (N := 17) hx hb hts hin_Se hown hK hP 0 rfl rfl 3 (by decide) (hts _ wd_106) (fun _ h9 => h9) rfl d_Se_readHeadOn_1 ?_
  refine lv_aload_n hx hb d_Se_readHeadOn_4 rfl (lv_at hl 0 rfl) ?_
  refine va_get (D := D) (ci := 2) (v := .int (mI Sm)) (C := R_Se) (T := T_Se) (N := 17) hx hb hts hin_Se hown hK hP 0 rfl rfl 4 (by decide) (hts _ wd_107) (fun _ h9 => h9) rfl d_Se_readHeadOn_5 ?_
  refine lv_iconst (v := (-1)) hx hb d_Se_readHeadOn_8 (by decide) ?_
  refine lv_ixor hx hb d_Se_readHeadOn_9 ?_
  refine lv_iand hx hb d_Se_readHeadOn_10 ?_
  refine tr_top (y := mI (fun j => Mv j && !(Sm j))) (mI_diff _ _) ?_
  refine lv_istore_n (lv' := [(1, .int (mI (fun j => Mv j && !(Sm j)))), (0, .ref h0)]) hx hb d_Se_readHeadOn_11 rfl hl (by decide) rfl (fun ls hl => ?_)
  refine lv_iconst (v := 0) hx hb d_Se_readHeadOn_12 (by decide) ?_
  refine lv_istore_n (lv' := [(2, .int 0), (1, .int (mI (fun j => Mv j && !(Sm j)))), (0, .ref h0)]) hx hb d_Se_readHeadOn_13 rfl hl (by decide) rfl (fun ls hl => ?_)
  have loop : ∀ (k i : Nat) (ls : Array Slot) (H : Heap) (locs : List Loc), i + k = n → lv_has ls 3 [(2, .int (nI i)), (1, .int (mI (fun j => Mv j && !(Sm j)))), (0, .ref h0)] → va_P D vwCl [(h0, .inr (2, [.ref qm, .ref qs, .int (mI St), .int (mI Mv), .int (mI Sm), .int (mI (upTo (hoR Mv Sm Mt X) i)), .ref q1, .ref q2, .ref q3, .ref q4, .int (mI Su), .int (mI Op), .int (mI Sd), .int (mI Od), .int (mI Sp), .int (mI Oq), .ref q5])), (qm, .inr (4, [.int (nI n), .int (mI S), .int (mI Ce), .ref qh, .ref qn])), (q1, .inl (cI, 12, .inl (fun j => mI (Mt j)))), (qs, .inr (3, [.int tn, .ref qu, .ref qo, .ref qx, .ref qy, .ref qr, .ref qw])), (qx, .inl (cI, 12, .inl (fun j => nI (X j))))] H → va_D A [(h0, .inr (2, [.ref qm, .ref qs, .int (mI St), .int (mI Mv), .int (mI Sm), .int (mI (upTo (hoR Mv Sm Mt X) i)), .ref q1, .ref q2, .ref q3, .ref q4, .int (mI Su), .int (mI Op), .int (mI Sd), .int (mI Od), .int (mI Sp), .int (mI Oq), .ref q5])), (qm, .inr (4, [.int (nI n), .int (mI S), .int (mI Ce), .ref qh, .ref qn])), (q1, .inl (cI, 12, .inl (fun j => mI (Mt j)))), (qs, .inr (3, [.int tn, .ref qu, .ref qo, .ref qx, .ref qy, .ref qr, .ref qw])), (qx, .inl (cI, 12, .inl (fun j => nI (X j))))] → va_S A s.heap H locs → W p l e (headSpec w_Se_readHeadOn ({ frames := 1, cells := 0, slots := 0, locals := 21 })).room s m ([.ref h0]).toArray below meth c H locs 0 0 (MQ below (va_Qv (fun _ : Unit => True) (fun _ t => tB D A [(h0, .inr (2, [.ref qm, .ref qs, .int (mI St), .int (mI Mv), .int (mI Sm), .int (mI (upTo (hoR Mv Sm Mt X) n)), .ref q1, .ref q2, .ref q3, .ref q4, .int (mI Su), .int (mI Op), .int (mI Sd), .int (mI Od), .int (mI Sp), .int (mI Oq), .ref q5])), (qm, .inr (4, [.int (nI n), .int (mI S), .int (mI Ce), .ref qh, .ref qn])), (q1, .inl (cI, 12, .inl (fun j => mI (Mt j)))), (qs, .inr (3, [.int tn, .ref qu, .ref qo, .ref qx, .ref qy, .ref qr, .ref qw])), (qx, .inl (cI, 12, .inl (fun j => nI (X j))))] t) A) ([.ref h0]).toArray s 0 0 A) (F0 m 14 ls []) := by
    intro k
    induction k with
    | zero =>
      intro i ls H locs hi hl hP hD hS
      have hie : i = n := by omega
      rw [hie] at hl hP hD
      refine lv_iload_n hx hb d_Se_readHeadOn_14 rfl (lv_at hl 0 rfl) ?_
      refine lv_aload_n hx hb d_Se_readHeadOn_15 rfl (lv_at hl 2 rfl) ?_
      refine va_get (D := D) (ci := 2) (v := .ref qm) (C := R_Se) (T := T_Se) (N := 17) hx hb hts hin_Se hown hK hP 0 rfl rfl 0 (by decide) (hts _ wd_103) (fun _ h9 => h9) rfl d_Se_readHeadOn_16 ?_
      refine va_get (D := D) (ci := 4) (v := .int (nI n)) (C := R_Wm) (T := T_Wm) (N := 5) hx hb hts hin_Wm hown hK hP 1 rfl rfl 0 (by decide) (hts _ wd_33) (fun _ h9 => h9) rfl d_Se_readHeadOn_19 ?_
      refine lv_icmp_ge (tgt := 75) hx hb d_Se_readHeadOn_22 (by decide) (fun _ => ?_) (fun h0 => absurd (Int32.le_refl _) h0)
      have hP9 := hP.sub (ws' := [(h0, .inr (2, [.ref qm, .ref qs, .int (mI St), .int (mI Mv), .int (mI Sm), .int (mI (upTo (hoR Mv Sm Mt X) n)), .ref q1, .ref q2, .ref q3, .ref q4, .int (mI Su), .int (mI Op), .int (mI Sd), .int (mI Od), .int (mI Sp), .int (mI Oq), .ref q5])), (qm, .inr (4, [.int (nI n), .int (mI S), .int (mI Ce), .ref qh, .ref qn])), (q1, .inl (cI, 12, .inl (fun j => mI (Mt j)))), (qs, .inr (3, [.int tn, .ref qu, .ref qo, .ref qx, .ref qy, .ref qr, .ref qw])), (qx, .inl (cI, 12, .inl (fun j => nI (X j))))]) [0, 1, 2, 3, 4] rfl
      have hD9 := hD.sub (ws' := [(h0, .inr (2, [.ref qm, .ref qs, .int (mI St), .int (mI Mv), .int (mI Sm), .int (mI (upTo (hoR Mv Sm Mt X) n)), .ref q1, .ref q2, .ref q3, .ref q4, .int (mI Su), .int (mI Op), .int (mI Sd), .int (mI Od), .int (mI Sp), .int (mI Oq), .ref q5])), (qm, .inr (4, [.int (nI n), .int (mI S), .int (mI Ce), .ref qh, .ref qn])), (q1, .inl (cI, 12, .inl (fun j => mI (Mt j)))), (qs, .inr (3, [.int tn, .ref qu, .ref qo, .ref qx, .ref qy, .ref qr, .ref qw])), (qx, .inl (cI, 12, .inl (fun j => nI (X j))))]) [0, 1, 2, 3, 4] (by decide) rfl
      exact W.vret hx hb hr (fun t ht hW => ⟨⟨(), rfl, trivial, by rw [ht]; exact hP9, hD9⟩, hS.F ht⟩) hS.2.2 d_Se_readHeadOn_75
    | succ k ih =>
      intro i ls H locs hi hl hP hD hS
      have hlt : i < n := by omega
      have hlt12 : i < 12 := by omega
      refine lv_iload_n hx hb d_Se_readHeadOn_14 rfl (lv_at hl 0 rfl) ?_
      refine lv_aload_n hx hb d_Se_readHeadOn_15 rfl (lv_at hl 2 rfl) ?_
      refine va_get (D := D) (ci := 2) (v := .ref qm) (C := R_Se) (T := T_Se) (N := 17) hx hb hts hin_Se hown hK hP 0 rfl rfl 0 (by decide) (hts _ wd_103) (fun _ h9 => h9) rfl d_Se_readHeadOn_16 ?_
      refine va_get (D := D) (ci := 4) (v := .int (nI n)) (C := R_Wm) (T := T_Wm) (N := 5) hx hb hts hin_Wm hown hK hP 1 rfl rfl 0 (by decide) (hts _ wd_33) (fun _ h9 => h9) rfl d_Se_readHeadOn_19 ?_
      refine lv_icmp_ge (tgt := 75) hx hb d_Se_readHeadOn_22 (by decide) (fun h0 => absurd h0 (nI_ge hlt (by omega))) (fun _ => ?_)
      refine lv_iload_n hx hb d_Se_readHeadOn_25 rfl (lv_at hl 1 rfl) ?_
      refine lv_iload_n hx hb d_Se_readHeadOn_26 rfl (lv_at hl 0 rfl) ?_
      have hPc := hP.sub (ws' := []) [] rfl
      refine vp_callSi (va_Run.run (va_runSN (As := [.int (mI (fun j => Mv j && !(Sm j))), .int (nI i)]) (rest := []) ⟨hx, hb, hml, hown, hts⟩ (c_Sw_in l D cI cZ cJ cS aT ceT  (fun j => Mv j && !(Sm j)) i hlt12) (⟨va_cnB 2 hts (tb_c wd_285) rfl rfl rfl hX.2.2.2.2.2.2.2.1 (hts _ wd_1) ⟨by decide, by decide, by decide +kernel⟩ ⟨Nat.le_of_ble_eq_true rfl, Nat.le_of_ble_eq_true rfl⟩, hts _ wd_284, trivial⟩) (tP_S hK hX (hS.2.1 aT hXl hXn) hPc) rfl rfl hl.1 rfl (lv_room (Nat.le_of_ble_eq_true rfl)) d_Se_readHeadOn_27 ⟨Nat.le_of_ble_eq_true rfl, Nat.le_of_ble_eq_true rfl⟩)) (fun r3 hr9 => ?_)
      rw [hr9]
      rcases bI_c ((fun j => Mv j && !(Sm j)) i) with ⟨hb5, e9⟩ | ⟨hb5, e9⟩
      · refine tr_top e9 ?_
        refine lv_if_eq (tgt := 69) hx hb d_Se_readHeadOn_30 (by decide) (fun h0 => absurd h0 (by decide)) (fun _ => ?_)
        refine lv_iload_n hx hb d_Se_readHeadOn_33 rfl (lv_at hl 1 rfl) ?_
        refine lv_aload_n hx hb d_Se_readHeadOn_34 rfl (lv_at hl 2 rfl) ?_
        refine va_get (D := D) (ci := 2) (v := .ref q1) (C := R_Se) (T := T_Se) (N := 17) hx hb hts hin_Se hown hK hP 0 rfl rfl 6 (by decide) (hts _ wd_109) (fun _ h9 => h9) rfl d_Se_readHeadOn_35 ?_
        refine lv_iload_n hx hb d_Se_readHeadOn_38 rfl (lv_at hl 0 rfl) ?_
        refine tr_iald (v := mI (Mt i)) hx hb hK hP 2 0 rfl rfl i hlt12 (by decide) rfl d_Se_readHeadOn_39 ?_
        refine lv_iand hx hb d_Se_readHeadOn_40 ?_
        refine tr_top (y := mI (fun j => (Mv j && !(Sm j)) && Mt i j)) (mI_and _ _) ?_
        refine lv_aload_n hx hb d_Se_readHeadOn_41 rfl (lv_at hl 2 rfl) ?_
        refine va_get (D := D) (ci := 2) (v := .ref qs) (C := R_Se) (T := T_Se) (N := 17) hx hb hts hin_Se hown hK hP 0 rfl rfl 1 (by decide) (hts _ wd_104) (fun _ h9 => h9) rfl d_Se_readHeadOn_42 ?_
        refine va_get (D := D) (ci := 3) (v := .ref qx) (C := R_Sh) (T := T_Sh) (N := 7) hx hb hts hin_Sh hown hK hP 3 rfl rfl 3 (by decide) (hts _ wd_72) (fun _ h9 => h9) rfl d_Se_readHeadOn_45 ?_
        refine lv_iload_n hx hb d_Se_readHeadOn_48 rfl (lv_at hl 0 rfl) ?_
        refine tr_iald (v := nI (X i)) hx hb hK hP 4 0 rfl rfl i hlt12 (by decide) rfl d_Se_readHeadOn_49 ?_
        have hPc := hP.sub (ws' := []) [] rfl
        refine vp_callSi (va_Run.run (va_runSN (As := [.int (mI (fun j => (Mv j && !(Sm j)) && Mt i j)), .int (nI (X i))]) (rest := []) ⟨hx, hb, hml, hown, hts⟩ (c_Sw_in l D cI cZ cJ cS aT ceT  (fun j => (Mv j && !(Sm j)) && Mt i j) (X i) (hX12 _)) (⟨va_cnB 2 hts (tb_c wd_285) rfl rfl rfl hX.2.2.2.2.2.2.2.1 (hts _ wd_1) ⟨by decide, by decide, by decide +kernel⟩ ⟨Nat.le_of_ble_eq_true rfl, Nat.le_of_ble_eq_true rfl⟩, hts _ wd_284, trivial⟩) (tP_S hK hX (hS.2.1 aT hXl hXn) hPc) rfl rfl hl.1 rfl (lv_room (Nat.le_of_ble_eq_true rfl)) d_Se_readHeadOn_50 ⟨Nat.le_of_ble_eq_true rfl, Nat.le_of_ble_eq_true rfl⟩)) (fun r7 hr9 => ?_)
        rw [hr9]
        rcases bI_c ((fun j => (Mv j && !(Sm j)) && Mt i j) (X i)) with ⟨hb9, e9⟩ | ⟨hb9, e9⟩
        · refine tr_top e9 ?_
          refine lv_if_eq (tgt := 69) hx hb d_Se_readHeadOn_53 (by decide) (fun h0 => absurd h0 (by decide)) (fun _ => ?_)
          refine lv_aload_n hx hb d_Se_readHeadOn_56 rfl (lv_at hl 2 rfl) ?_
          refine lv_dup hx hb d_Se_readHeadOn_57 rfl ?_
          refine va_get (D := D) (ci := 2) (v := .int (mI (upTo (hoR Mv Sm Mt X) i))) (C := R_Se) (T := T_Se) (N := 17) hx hb hts hin_Se hown hK hP 0 rfl rfl 5 (by decide) (hts _ wd_108) (fun _ h9 => h9) rfl d_Se_readHeadOn_58 ?_
          refine lv_iload_n hx hb d_Se_readHeadOn_61 rfl (lv_at hl 0 rfl) ?_
          have hPc := hP.sub (ws' := []) [] rfl
          refine vp_callSi (va_Run.run (va_runSN (As := [.int (nI i)]) (rest := [.int (mI (upTo (hoR Mv Sm Mt X) i)), .ref h0]) ⟨hx, hb, hml, hown, hts⟩ (c_Sw_bitN l D cI cZ cJ cS aT ceT  i hlt12) (⟨va_cnB 1 hts (tb_c wd_411) rfl rfl rfl hX.2.2.2.2.2.2.2.2.1 (hts _ wd_1) ⟨by decide, by decide, by decide +kernel⟩ ⟨Nat.le_of_ble_eq_true rfl, Nat.le_of_ble_eq_true rfl⟩, hts _ wd_410, trivial⟩) (tP_S hK hX (hS.2.1 aT hXl hXn) hPc) rfl rfl hl.1 rfl (lv_room (Nat.le_of_ble_eq_true rfl)) d_Se_readHeadOn_62 ⟨Nat.le_of_ble_eq_true rfl, Nat.le_of_ble_eq_true rfl⟩)) (fun r11 hr9 => ?_)
          rw [hr9]
          refine lv_ior hx hb d_Se_readHeadOn_65 ?_
          refine tr_top (y := mI (fun j => upTo (hoR Mv Sm Mt X) i j || decide (j = i))) (mI_or _ _) ?_
          refine va_put (D := D) (ci := 2) (v := .int (mI (fun j => upTo (hoR Mv Sm Mt X) i j || decide (j = i)))) (ty := .int) (C := R_Se) (T := T_Se) (N := 17) hx hb hts hin_Se ty_Se tyok_Se nm_Se hown hK hP hD hS 0 rfl rfl 5 (by decide) (hts _ wd_108) (fun _ h9 => h9) rfl (by decide +kernel) rfl rfl (Nat.le_of_ble_eq_true rfl) d_Se_readHeadOn_66 (fun H locs hP hD hS => ?_)
          have hP : va_P D vwCl [(h0, .inr (2, [.ref qm, .ref qs, .int (mI St), .int (mI Mv), .int (mI Sm), .int (mI (fun j => upTo (hoR Mv Sm Mt X) i j || decide (j = i))), .ref q1, .ref q2, .ref q3, .ref q4, .int (mI Su), .int (mI Op), .int (mI Sd), .int (mI Od), .int (mI Sp), .int (mI Oq), .ref q5])), (qm, .inr (4, [.int (nI n), .int (mI S), .int (mI Ce), .ref qh, .ref qn])), (q1, .inl (cI, 12, .inl (fun j => mI (Mt j)))), (qs, .inr (3, [.int tn, .ref qu, .ref qo, .ref qx, .ref qy, .ref qr, .ref qw])), (qx, .inl (cI, 12, .inl (fun j => nI (X j))))] H := hP
          have hD : va_D A [(h0, .inr (2, [.ref qm, .ref qs, .int (mI St), .int (mI Mv), .int (mI Sm), .int (mI (fun j => upTo (hoR Mv Sm Mt X) i j || decide (j = i))), .ref q1, .ref q2, .ref q3, .ref q4, .int (mI Su), .int (mI Op), .int (mI Sd), .int (mI Od), .int (mI Sp), .int (mI Oq), .ref q5])), (qm, .inr (4, [.int (nI n), .int (mI S), .int (mI Ce), .ref qh, .ref qn])), (q1, .inl (cI, 12, .inl (fun j => mI (Mt j)))), (qs, .inr (3, [.int tn, .ref qu, .ref qo, .ref qx, .ref qy, .ref qr, .ref qw])), (qx, .inl (cI, 12, .inl (fun j => nI (X j))))] := hD
          refine lv_iinc (lv' := [(2, .int ((nI i) + 1)), (1, .int (mI (fun j => Mv j && !(Sm j)))), (0, .ref h0)]) hx hb d_Se_readHeadOn_69 hl (k := 0) rfl rfl (by decide) rfl (fun ls hl => ?_)
          refine lv_goto (tgt := 14) hx hb d_Se_readHeadOn_72 (by decide) ?_
          have e12 : (nI i) + 1 = nI (i + 1) := nI_1 i
          have eo13 : (mI (fun j => upTo (hoR Mv Sm Mt X) i j || decide (j = i))) = (mI (upTo (hoR Mv Sm Mt X) (i + 1))) := mI_upY (show (hoR Mv Sm Mt X) i = true by simp [hoR, hb5, hb9])
          exact ih (i + 1) ls H locs (by omega) (by rw [← e12]; exact lv_sub hl [0, 1, 2] rfl) (by rw [← eo13]; exact hP) (by rw [← eo13]; exact hD) hS
        · refine tr_top e9 ?_
          refine lv_if_eq (tgt := 69) hx hb d_Se_readHeadOn_53 (by decide) (fun _ => ?_) (fun h0 => absurd (by decide) h0)
          refine lv_iinc (lv' := [(2, .int ((nI i) + 1)), (1, .int (mI (fun j => Mv j && !(Sm j)))), (0, .ref h0)]) hx hb d_Se_readHeadOn_69 hl (k := 0) rfl rfl (by decide) rfl (fun ls hl => ?_)
          refine lv_goto (tgt := 14) hx hb d_Se_readHeadOn_72 (by decide) ?_
          have e15 : (nI i) + 1 = nI (i + 1) := nI_1 i
          have eo16 : (mI (upTo (hoR Mv Sm Mt X) i)) = (mI (upTo (hoR Mv Sm Mt X) (i + 1))) := mI_upN (show (hoR Mv Sm Mt X) i = false by simp [hoR, hb5, hb9])
          exact ih (i + 1) ls H locs (by omega) (by rw [← e15]; exact lv_sub hl [0, 1, 2] rfl) (by rw [← eo16]; exact hP) (by rw [← eo16]; exact hD) hS
      · refine tr_top e9 ?_
        refine lv_if_eq (tgt := 69) hx hb d_Se_readHeadOn_30 (by decide) (fun _ => ?_) (fun h0 => absurd (by decide) h0)
        refine lv_iinc (lv' := [(2, .int ((nI i) + 1)), (1, .int (mI (fun j => Mv j && !(Sm j)))), (0, .ref h0)]) hx hb d_Se_readHeadOn_69 hl (k := 0) rfl rfl (by decide) rfl (fun ls hl => ?_)
        refine lv_goto (tgt := 14) hx hb d_Se_readHeadOn_72 (by decide) ?_
        have e18 : (nI i) + 1 = nI (i + 1) := nI_1 i
        have eo19 : (mI (upTo (hoR Mv Sm Mt X) i)) = (mI (upTo (hoR Mv Sm Mt X) (i + 1))) := mI_upN (show (hoR Mv Sm Mt X) i = false by simp [hoR, hb5])
        exact ih (i + 1) ls H locs (by omega) (by rw [← e18]; exact lv_sub hl [0, 1, 2] rfl) (by rw [← eo19]; exact hP) (by rw [← eo19]; exact hD) hS
  have ei20 : (mI (upTo (hoR Mv Sm Mt X) 0)) = (mI (fun _ => false)) := up_00 _
  exact loop n 0 ls _ _ (Nat.zero_add _) hl (by rw [ei20]; exact hP) (by rw [ei20]; exact hD) hS

theorem d_Se_readHelpers_0 : decode b_Se_readHelpers 0 = .ok (.iconst 0, 1) := by decide +kernel
theorem d_Se_readHelpers_1 : decode b_Se_readHelpers 1 = .ok (.istore_n 1, 1) := by decide +kernel
theorem d_Se_readHelpers_2 : decode b_Se_readHelpers 2 = .ok (.iload_n 1, 1) := by decide +kernel
theorem d_Se_readHelpers_3 : decode b_Se_readHelpers 3 = .ok (.aload_n 0, 1) := by decide +kernel
theorem d_Se_readHelpers_4 : decode b_Se_readHelpers 4 = .ok (.getfield 27, 3) := by decide +kernel
theorem d_Se_readHelpers_7 : decode b_Se_readHelpers 7 = .ok (.getfield 93, 3) := by decide +kernel
theorem d_Se_readHelpers_10 : decode b_Se_readHelpers 10 = .ok (.if_icmp .ge 158, 3) := by decide +kernel
theorem d_Se_readHelpers_13 : decode b_Se_readHelpers 13 = .ok (.aload_n 0, 1) := by decide +kernel
theorem d_Se_readHelpers_14 : decode b_Se_readHelpers 14 = .ok (.getfield 80, 3) := by decide +kernel
theorem d_Se_readHelpers_17 : decode b_Se_readHelpers 17 = .ok (.iload_n 1, 1) := by decide +kernel
theorem d_Se_readHelpers_18 : decode b_Se_readHelpers 18 = .ok (.invokestatic 83, 3) := by decide +kernel
theorem d_Se_readHelpers_21 : decode b_Se_readHelpers 21 = .ok (.ifCond .ne 6, 3) := by decide +kernel
theorem d_Se_readHelpers_24 : decode b_Se_readHelpers 24 = .ok (.goto 138, 3) := by decide +kernel
theorem d_Se_readHelpers_27 : decode b_Se_readHelpers 27 = .ok (.aload_n 0, 1) := by decide +kernel
theorem d_Se_readHelpers_28 : decode b_Se_readHelpers 28 = .ok (.getfield 31, 3) := by decide +kernel
theorem d_Se_readHelpers_31 : decode b_Se_readHelpers 31 = .ok (.getfield 105, 3) := by decide +kernel
theorem d_Se_readHelpers_34 : decode b_Se_readHelpers 34 = .ok (.iload_n 1, 1) := by decide +kernel
theorem d_Se_readHelpers_35 : decode b_Se_readHelpers 35 = .ok (.iaload, 1) := by decide +kernel
theorem d_Se_readHelpers_36 : decode b_Se_readHelpers 36 = .ok (.istore_n 2, 1) := by decide +kernel
theorem d_Se_readHelpers_37 : decode b_Se_readHelpers 37 = .ok (.aload_n 0, 1) := by decide +kernel
theorem d_Se_readHelpers_38 : decode b_Se_readHelpers 38 = .ok (.getfield 31, 3) := by decide +kernel
theorem d_Se_readHelpers_41 : decode b_Se_readHelpers 41 = .ok (.getfield 153, 3) := by decide +kernel
theorem d_Se_readHelpers_44 : decode b_Se_readHelpers 44 = .ok (.iload_n 1, 1) := by decide +kernel
theorem d_Se_readHelpers_45 : decode b_Se_readHelpers 45 = .ok (.iaload, 1) := by decide +kernel
theorem d_Se_readHelpers_46 : decode b_Se_readHelpers 46 = .ok (.istore_n 3, 1) := by decide +kernel
theorem d_Se_readHelpers_47 : decode b_Se_readHelpers 47 = .ok (.aload_n 0, 1) := by decide +kernel
theorem d_Se_readHelpers_48 : decode b_Se_readHelpers 48 = .ok (.getfield 9, 3) := by decide +kernel
theorem d_Se_readHelpers_51 : decode b_Se_readHelpers 51 = .ok (.iload_n 3, 1) := by decide +kernel
theorem d_Se_readHelpers_52 : decode b_Se_readHelpers 52 = .ok (.iaload, 1) := by decide +kernel
theorem d_Se_readHelpers_53 : decode b_Se_readHelpers 53 = .ok (.iload_n 2, 1) := by decide +kernel
theorem d_Se_readHelpers_54 : decode b_Se_readHelpers 54 = .ok (.invokestatic 83, 3) := by decide +kernel
theorem d_Se_readHelpers_57 : decode b_Se_readHelpers 57 = .ok (.istore 4, 2) := by decide +kernel
theorem d_Se_readHelpers_59 : decode b_Se_readHelpers 59 = .ok (.iload_n 2, 1) := by decide +kernel
theorem d_Se_readHelpers_60 : decode b_Se_readHelpers 60 = .ok (.iload_n 3, 1) := by decide +kernel
theorem d_Se_readHelpers_61 : decode b_Se_readHelpers 61 = .ok (.if_icmp .ne 18, 3) := by decide +kernel
theorem d_Se_readHelpers_64 : decode b_Se_readHelpers 64 = .ok (.aload_n 0, 1) := by decide +kernel
theorem d_Se_readHelpers_65 : decode b_Se_readHelpers 65 = .ok (.getfield 66, 3) := by decide +kernel
theorem d_Se_readHelpers_68 : decode b_Se_readHelpers 68 = .ok (.iload_n 2, 1) := by decide +kernel
theorem d_Se_readHelpers_69 : decode b_Se_readHelpers 69 = .ok (.invokestatic 83, 3) := by decide +kernel
theorem d_Se_readHelpers_72 : decode b_Se_readHelpers 72 = .ok (.ifCond .ne 7, 3) := by decide +kernel
theorem d_Se_readHelpers_75 : decode b_Se_readHelpers 75 = .ok (.iconst 1, 1) := by decide +kernel
theorem d_Se_readHelpers_76 : decode b_Se_readHelpers 76 = .ok (.goto 4, 3) := by decide +kernel
theorem d_Se_readHelpers_79 : decode b_Se_readHelpers 79 = .ok (.iconst 0, 1) := by decide +kernel
theorem d_Se_readHelpers_80 : decode b_Se_readHelpers 80 = .ok (.istore 5, 2) := by decide +kernel
theorem d_Se_readHelpers_82 : decode b_Se_readHelpers 82 = .ok (.aload_n 0, 1) := by decide +kernel
theorem d_Se_readHelpers_83 : decode b_Se_readHelpers 83 = .ok (.getfield 31, 3) := by decide +kernel
theorem d_Se_readHelpers_86 : decode b_Se_readHelpers 86 = .ok (.getfield 121, 3) := by decide +kernel
theorem d_Se_readHelpers_89 : decode b_Se_readHelpers 89 = .ok (.iload_n 1, 1) := by decide +kernel
theorem d_Se_readHelpers_90 : decode b_Se_readHelpers 90 = .ok (.iaload, 1) := by decide +kernel
theorem d_Se_readHelpers_91 : decode b_Se_readHelpers 91 = .ok (.iconst 2, 1) := by decide +kernel
theorem d_Se_readHelpers_92 : decode b_Se_readHelpers 92 = .ok (.if_icmp .ne 39, 3) := by decide +kernel
theorem d_Se_readHelpers_95 : decode b_Se_readHelpers 95 = .ok (.iload 4, 2) := by decide +kernel
theorem d_Se_readHelpers_97 : decode b_Se_readHelpers 97 = .ok (.ifCond .ne 8, 3) := by decide +kernel
theorem d_Se_readHelpers_100 : decode b_Se_readHelpers 100 = .ok (.iload 5, 2) := by decide +kernel
theorem d_Se_readHelpers_102 : decode b_Se_readHelpers 102 = .ok (.ifCond .eq 29, 3) := by decide +kernel
theorem d_Se_readHelpers_105 : decode b_Se_readHelpers 105 = .ok (.aload_n 0, 1) := by decide +kernel
theorem d_Se_readHelpers_106 : decode b_Se_readHelpers 106 = .ok (.getfield 15, 3) := by decide +kernel
theorem d_Se_readHelpers_109 : decode b_Se_readHelpers 109 = .ok (.iload_n 2, 1) := by decide +kernel
theorem d_Se_readHelpers_110 : decode b_Se_readHelpers 110 = .ok (.dup2, 1) := by decide +kernel
theorem d_Se_readHelpers_111 : decode b_Se_readHelpers 111 = .ok (.iaload, 1) := by decide +kernel
theorem d_Se_readHelpers_112 : decode b_Se_readHelpers 112 = .ok (.iload_n 1, 1) := by decide +kernel
theorem d_Se_readHelpers_113 : decode b_Se_readHelpers 113 = .ok (.invokestatic 131, 3) := by decide +kernel
theorem d_Se_readHelpers_116 : decode b_Se_readHelpers 116 = .ok (.ior, 1) := by decide +kernel
theorem d_Se_readHelpers_117 : decode b_Se_readHelpers 117 = .ok (.iastore, 1) := by decide +kernel
theorem d_Se_readHelpers_118 : decode b_Se_readHelpers 118 = .ok (.aload_n 0, 1) := by decide +kernel
theorem d_Se_readHelpers_119 : decode b_Se_readHelpers 119 = .ok (.dup, 1) := by decide +kernel
theorem d_Se_readHelpers_120 : decode b_Se_readHelpers 120 = .ok (.getfield 53, 3) := by decide +kernel
theorem d_Se_readHelpers_123 : decode b_Se_readHelpers 123 = .ok (.iload_n 1, 1) := by decide +kernel
theorem d_Se_readHelpers_124 : decode b_Se_readHelpers 124 = .ok (.invokestatic 131, 3) := by decide +kernel
theorem d_Se_readHelpers_127 : decode b_Se_readHelpers 127 = .ok (.ior, 1) := by decide +kernel
theorem d_Se_readHelpers_128 : decode b_Se_readHelpers 128 = .ok (.putfield 53, 3) := by decide +kernel
theorem d_Se_readHelpers_131 : decode b_Se_readHelpers 131 = .ok (.aload_n 0, 1) := by decide +kernel
theorem d_Se_readHelpers_132 : decode b_Se_readHelpers 132 = .ok (.getfield 31, 3) := by decide +kernel
theorem d_Se_readHelpers_135 : decode b_Se_readHelpers 135 = .ok (.getfield 121, 3) := by decide +kernel
theorem d_Se_readHelpers_138 : decode b_Se_readHelpers 138 = .ok (.iload_n 1, 1) := by decide +kernel
theorem d_Se_readHelpers_139 : decode b_Se_readHelpers 139 = .ok (.iaload, 1) := by decide +kernel
theorem d_Se_readHelpers_140 : decode b_Se_readHelpers 140 = .ok (.iconst 3, 1) := by decide +kernel
theorem d_Se_readHelpers_141 : decode b_Se_readHelpers 141 = .ok (.if_icmp .ne 21, 3) := by decide +kernel
theorem d_Se_readHelpers_144 : decode b_Se_readHelpers 144 = .ok (.iload 4, 2) := by decide +kernel
theorem d_Se_readHelpers_146 : decode b_Se_readHelpers 146 = .ok (.ifCond .eq 16, 3) := by decide +kernel
theorem d_Se_readHelpers_149 : decode b_Se_readHelpers 149 = .ok (.aload_n 0, 1) := by decide +kernel
theorem d_Se_readHelpers_150 : decode b_Se_readHelpers 150 = .ok (.getfield 18, 3) := by decide +kernel
theorem d_Se_readHelpers_153 : decode b_Se_readHelpers 153 = .ok (.iload_n 2, 1) := by decide +kernel
theorem d_Se_readHelpers_154 : decode b_Se_readHelpers 154 = .ok (.dup2, 1) := by decide +kernel
theorem d_Se_readHelpers_155 : decode b_Se_readHelpers 155 = .ok (.iaload, 1) := by decide +kernel
theorem d_Se_readHelpers_156 : decode b_Se_readHelpers 156 = .ok (.iload_n 1, 1) := by decide +kernel
theorem d_Se_readHelpers_157 : decode b_Se_readHelpers 157 = .ok (.invokestatic 131, 3) := by decide +kernel
theorem d_Se_readHelpers_160 : decode b_Se_readHelpers 160 = .ok (.ior, 1) := by decide +kernel
theorem d_Se_readHelpers_161 : decode b_Se_readHelpers 161 = .ok (.iastore, 1) := by decide +kernel
theorem d_Se_readHelpers_162 : decode b_Se_readHelpers 162 = .ok (.iinc 1 1, 3) := by decide +kernel
theorem d_Se_readHelpers_165 : decode b_Se_readHelpers 165 = .ok (.goto (-163), 3) := by decide +kernel
theorem d_Se_readHelpers_168 : decode b_Se_readHelpers 168 = .ok (.return_, 1) := by decide +kernel

set_option maxHeartbeats 4000000 in
set_option maxRecDepth 100000 in
theorem c_Se_readHelpers (l : Launch) (D : va_G) (cI cZ cJ cS : ClassId) (aT : Nat) (ceT : Cell) (sz : Nat) (h0 qm qs q1 q2 q3 q4 q5 : Nat) (St Mv Sm Ho Su Sd Od Sp Oq : Nat → Bool) (qh qn n : Nat) (S Ce : Nat → Bool) (Mt : Nat → Nat → Bool) (tn : Int32) (qu qo qx qy qr qw : Nat) (Oo X Y : Nat → Nat) (hX12 : ∀ j, X j < 12) (hY12 : ∀ j, Y j < 12) (hO4 : ∀ j, Oo j < 4) (hn : n ≤ 12) : Met l y_Se_readHelpers w_Se_readHelpers ({ frames := 1, cells := 0, slots := 0, locals := 21 }) (tH D cI cZ cJ cS aT ceT [.ref h0] sz [(h0, .inr (2, [.ref qm, .ref qs, .int (mI St), .int (mI Mv), .int (mI Sm), .int (mI Ho), .ref q1, .ref q2, .ref q3, .ref q4, .int (mI Su), .int (mI Mv), .int (mI Sd), .int (mI Od), .int (mI Sp), .int (mI Oq), .ref q5])), (qm, .inr (4, [.int (nI n), .int (mI S), .int (mI Ce), .ref qh, .ref qn])), (q1, .inl (cI, 12, .inl (fun j => mI (Mt j)))), (qs, .inr (3, [.int tn, .ref qu, .ref qo, .ref qx, .ref qy, .ref qr, .ref qw])), (qo, .inl (cI, 12, .inl (fun j => nI (Oo j)))), (qx, .inl (cI, 12, .inl (fun j => nI (X j)))), (qy, .inl (cI, 12, .inl (fun j => nI (Y j)))), (q2, .inl (cI, 12, .inl (fun _ => 0))), (q3, .inl (cI, 12, .inl (fun _ => 0)))]) (va_Qv (fun _ : Unit => True) (fun _ t => tB D (va_A [(h0, .inr (2, [.ref qm, .ref qs, .int (mI St), .int (mI Mv), .int (mI Sm), .int (mI Ho), .ref q1, .ref q2, .ref q3, .ref q4, .int (mI Su), .int (mI Mv), .int (mI Sd), .int (mI Od), .int (mI Sp), .int (mI Oq), .ref q5])), (qm, .inr (4, [.int (nI n), .int (mI S), .int (mI Ce), .ref qh, .ref qn])), (q1, .inl (cI, 12, .inl (fun j => mI (Mt j)))), (qs, .inr (3, [.int tn, .ref qu, .ref qo, .ref qx, .ref qy, .ref qr, .ref qw])), (qo, .inl (cI, 12, .inl (fun j => nI (Oo j)))), (qx, .inl (cI, 12, .inl (fun j => nI (X j)))), (qy, .inl (cI, 12, .inl (fun j => nI (Y j)))), (q2, .inl (cI, 12, .inl (fun _ => 0))), (q3, .inl (cI, 12, .inl (fun _ => 0)))] sz) [(h0, .inr (2, [.ref qm, .ref qs, .int (mI St), .int (mI Mv), .int (mI Sm), .int (mI Ho), .ref q1, .ref q2, .ref q3, .ref q4, .int (mI Su), .int (mI (orU Mv (hsR St Mv Mt Oo X Y) n)), .int (mI Sd), .int (mI Od), .int (mI Sp), .int (mI Oq), .ref q5])), (qm, .inr (4, [.int (nI n), .int (mI S), .int (mI Ce), .ref qh, .ref qn])), (q1, .inl (cI, 12, .inl (fun j => mI (Mt j)))), (qs, .inr (3, [.int tn, .ref qu, .ref qo, .ref qx, .ref qy, .ref qr, .ref qw])), (qo, .inl (cI, 12, .inl (fun j => nI (Oo j)))), (qx, .inl (cI, 12, .inl (fun j => nI (X j)))), (qy, .inl (cI, 12, .inl (fun j => nI (Y j)))), (q2, .inl (cI, 12, .inl (fun j => mI (upTo (bkR St Mv Mt Oo X Y j) n)))), (q3, .inl (cI, 12, .inl (fun j => mI (upTo (caR St Mt Oo X Y j) n))))] t) (va_A [(h0, .inr (2, [.ref qm, .ref qs, .int (mI St), .int (mI Mv), .int (mI Sm), .int (mI Ho), .ref q1, .ref q2, .ref q3, .ref q4, .int (mI Su), .int (mI Mv), .int (mI Sd), .int (mI Od), .int (mI Sp), .int (mI Oq), .ref q5])), (qm, .inr (4, [.int (nI n), .int (mI S), .int (mI Ce), .ref qh, .ref qn])), (q1, .inl (cI, 12, .inl (fun j => mI (Mt j)))), (qs, .inr (3, [.int tn, .ref qu, .ref qo, .ref qx, .ref qy, .ref qr, .ref qw])), (qo, .inl (cI, 12, .inl (fun j => nI (Oo j)))), (qx, .inl (cI, 12, .inl (fun j => nI (X j)))), (qy, .inl (cI, 12, .inl (fun j => nI (Y j)))), (q2, .inl (cI, 12, .inl (fun _ => 0))), (q3, .inl (cI, 12, .inl (fun _ => 0)))] sz)) 0 0 (va_A [(h0, .inr (2, [.ref qm, .ref qs, .int (mI St), .int (mI Mv), .int (mI Sm), .int (mI Ho), .ref q1, .ref q2, .ref q3, .ref q4, .int (mI Su), .int (mI Mv), .int (mI Sd), .int (mI Od), .int (mI Sp), .int (mI Oq), .ref q5])), (qm, .inr (4, [.int (nI n), .int (mI S), .int (mI Ce), .ref qh, .ref qn])), (q1, .inl (cI, 12, .inl (fun j => mI (Mt j)))), (qs, .inr (3, [.int tn, .ref qu, .ref qo, .ref qx, .ref qy, .ref qr, .ref qw])), (qo, .inl (cI, 12, .inl (fun j => nI (Oo j)))), (qx, .inl (cI, 12, .inl (fun j => nI (X j)))), (qy, .inl (cI, 12, .inl (fun j => nI (Y j)))), (q2, .inl (cI, 12, .inl (fun _ => 0))), (q3, .inl (cI, 12, .inl (fun _ => 0)))] sz) := by
  refine Met.ofW (cc := b_Se_readHelpers) (maxL := 6) (ret := none) (by decide) rfl ?_
  intro p e s m args below meth c s₁ B hml hv
  obtain ⟨rfl, hsz, hP, hK, hD0, hX⟩ := hv
  have hx := B.exec
  have hb := B.bytes
  have hr := B.returns
  have hts0 := atoms_spec (ws := w_Se_readHelpers) B.pre
  have hts : ∀ w ∈ TB, w.before _ s = true := fun w h => hts0 w (List.mem_cons_of_mem _ h)
  have hown : s.vm.findClass R_Se = some m.cls := findClass_of_methodNamed B.named
  have hlocks := B.notSynchronized
  subst hsz
  have hXl := tx_lt hX
  have hXn := tx_far hP hX
  have hD := hD0.self (sz := s.heap.size)
  generalize hAe : va_A [(h0, .inr (2, [.ref qm, .ref qs, .int (mI St), .int (mI Mv), .int (mI Sm), .int (mI Ho), .ref q1, .ref q2, .ref q3, .ref q4, .int (mI Su), .int (mI Mv), .int (mI Sd), .int (mI Od), .int (mI Sp), .int (mI Oq), .ref q5])), (qm, .inr (4, [.int (nI n), .int (mI S), .int (mI Ce), .ref qh, .ref qn])), (q1, .inl (cI, 12, .inl (fun j => mI (Mt j)))), (qs, .inr (3, [.int tn, .ref qu, .ref qo, .ref qx, .ref qy, .ref qr, .ref qw])), (qo, .inl (cI, 12, .inl (fun j => nI (Oo j)))), (qx, .inl (cI, 12, .inl (fun j => nI (X j)))), (qy, .inl (cI, 12, .inl (fun j => nI (Y j)))), (q2, .inl (cI, 12, .inl (fun _ => 0))), (q3, .inl (cI, 12, .inl (fun _ => 0)))] s.heap.size = A at hD hXn ⊢
  have hA : ∀ q : Nat, s.heap.size ≤ q → A q := fun q h => by rw [← hAe]; exact Or.inr h
  have hS : va_S A s.heap s.heap [] := va_S.rf
  have hXH : s.heap[aT]? = s.heap[aT]? := rfl
  have hl := lv_entry ([.ref h0]) (n := 6) (Nat.le_of_ble_eq_true rfl)
  rw [lg_entry_eq]
  generalize (lg_sl ([.ref h0]) ++ List.replicate (6 - (lg_sl ([.ref h0])).length) Slot.unset).toArray = ls at hl ⊢
  have hl : lv_has ls 6 [(0, .ref h0)] := hl
  refine lv_iconst (v := 0) hx hb d_Se_readHelpers_0 (by decide) ?_
  refine lv_istore_n (lv' := [(1, .int 0), (0, .ref h0)]) hx hb d_Se_readHelpers_1 rfl hl (by decide) rfl (fun ls hl => ?_)
  have loop : ∀ (k i : Nat) (ls : Array Slot) (H : Heap) (locs : List Loc), i + k = n → lv_has ls 6 [(1, .int (nI i)), (0, .ref h0)] → va_P D vwCl [(h0, .inr (2, [.ref qm, .ref qs, .int (mI St), .int (mI Mv), .int (mI Sm), .int (mI Ho), .ref q1, .ref q2, .ref q3, .ref q4, .int (mI Su), .int (mI (orU Mv (hsR St Mv Mt Oo X Y) i)), .int (mI Sd), .int (mI Od), .int (mI Sp), .int (mI Oq), .ref q5])), (qm, .inr (4, [.int (nI n), .int (mI S), .int (mI Ce), .ref qh, .ref qn])), (q1, .inl (cI, 12, .inl (fun j => mI (Mt j)))), (qs, .inr (3, [.int tn, .ref qu, .ref qo, .ref qx, .ref qy, .ref qr, .ref qw])), (qo, .inl (cI, 12, .inl (fun j => nI (Oo j)))), (qx, .inl (cI, 12, .inl (fun j => nI (X j)))), (qy, .inl (cI, 12, .inl (fun j => nI (Y j)))), (q2, .inl (cI, 12, .inl (fun j => mI (upTo (bkR St Mv Mt Oo X Y j) i)))), (q3, .inl (cI, 12, .inl (fun j => mI (upTo (caR St Mt Oo X Y j) i))))] H → va_D A [(h0, .inr (2, [.ref qm, .ref qs, .int (mI St), .int (mI Mv), .int (mI Sm), .int (mI Ho), .ref q1, .ref q2, .ref q3, .ref q4, .int (mI Su), .int (mI (orU Mv (hsR St Mv Mt Oo X Y) i)), .int (mI Sd), .int (mI Od), .int (mI Sp), .int (mI Oq), .ref q5])), (qm, .inr (4, [.int (nI n), .int (mI S), .int (mI Ce), .ref qh, .ref qn])), (q1, .inl (cI, 12, .inl (fun j => mI (Mt j)))), (qs, .inr (3, [.int tn, .ref qu, .ref qo, .ref qx, .ref qy, .ref qr, .ref qw])), (qo, .inl (cI, 12, .inl (fun j => nI (Oo j)))), (qx, .inl (cI, 12, .inl (fun j => nI (X j)))), (qy, .inl (cI, 12, .inl (fun j => nI (Y j)))), (q2, .inl (cI, 12, .inl (fun j => mI (upTo (bkR St Mv Mt Oo X Y j) i)))), (q3, .inl (cI, 12, .inl (fun j => mI (upTo (caR St Mt Oo X Y j) i))))] → va_S A s.heap H locs → W p l e (headSpec w_Se_readHelpers ({ frames := 1, cells := 0, slots := 0, locals := 21 })).room s m ([.ref h0]).toArray below meth c H locs 0 0 (MQ below (va_Qv (fun _ : Unit => True) (fun _ t => tB D A [(h0, .inr (2, [.ref qm, .ref qs, .int (mI St), .int (mI Mv), .int (mI Sm), .int (mI Ho), .ref q1, .ref q2, .ref q3, .ref q4, .int (mI Su), .int (mI (orU Mv (hsR St Mv Mt Oo X Y) n)), .int (mI Sd), .int (mI Od), .int (mI Sp), .int (mI Oq), .ref q5])), (qm, .inr (4, [.int (nI n), .int (mI S), .int (mI Ce), .ref qh, .ref qn])), (q1, .inl (cI, 12, .inl (fun j => mI (Mt j)))), (qs, .inr (3, [.int tn, .ref qu, .ref qo, .ref qx, .ref qy, .ref qr, .ref qw])), (qo, .inl (cI, 12, .inl (fun j => nI (Oo j)))), (qx, .inl (cI, 12, .inl (fun j => nI (X j)))), (qy, .inl (cI, 12, .inl (fun j => nI (Y j)))), (q2, .inl (cI, 12, .inl (fun j => mI (upTo (bkR St Mv Mt Oo X Y j) n)))), (q3, .inl (cI, 12, .inl (fun j => mI (upTo (caR St Mt Oo X Y j) n))))] t) A) ([.ref h0]).toArray s 0 0 A) (F0 m 2 ls []) := by
    intro k
    induction k with
    | zero =>
      intro i ls H locs hi hl hP hD hS
      have hie : i = n := by omega
      rw [hie] at hl hP hD
      refine lv_iload_n hx hb d_Se_readHelpers_2 rfl (lv_at hl 0 rfl) ?_
      refine lv_aload_n hx hb d_Se_readHelpers_3 rfl (lv_at hl 1 rfl) ?_
      refine va_get (D := D) (ci := 2) (v := .ref qm) (C := R_Se) (T := T_Se) (N := 17) hx hb hts hin_Se hown hK hP 0 rfl rfl 0 (by decide) (hts _ wd_103) (fun _ h9 => h9) rfl d_Se_readHelpers_4 ?_
      refine va_get (D := D) (ci := 4) (v := .int (nI n)) (C := R_Wm) (T := T_Wm) (N := 5) hx hb hts hin_Wm hown hK hP 1 rfl rfl 0 (by decide) (hts _ wd_33) (fun _ h9 => h9) rfl d_Se_readHelpers_7 ?_
      refine lv_icmp_ge (tgt := 168) hx hb d_Se_readHelpers_10 (by decide) (fun _ => ?_) (fun h0 => absurd (Int32.le_refl _) h0)
      have hP9 := hP.sub (ws' := [(h0, .inr (2, [.ref qm, .ref qs, .int (mI St), .int (mI Mv), .int (mI Sm), .int (mI Ho), .ref q1, .ref q2, .ref q3, .ref q4, .int (mI Su), .int (mI (orU Mv (hsR St Mv Mt Oo X Y) n)), .int (mI Sd), .int (mI Od), .int (mI Sp), .int (mI Oq), .ref q5])), (qm, .inr (4, [.int (nI n), .int (mI S), .int (mI Ce), .ref qh, .ref qn])), (q1, .inl (cI, 12, .inl (fun j => mI (Mt j)))), (qs, .inr (3, [.int tn, .ref qu, .ref qo, .ref qx, .ref qy, .ref qr, .ref qw])), (qo, .inl (cI, 12, .inl (fun j => nI (Oo j)))), (qx, .inl (cI, 12, .inl (fun j => nI (X j)))), (qy, .inl (cI, 12, .inl (fun j => nI (Y j)))), (q2, .inl (cI, 12, .inl (fun j => mI (upTo (bkR St Mv Mt Oo X Y j) n)))), (q3, .inl (cI, 12, .inl (fun j => mI (upTo (caR St Mt Oo X Y j) n))))]) [0, 1, 2, 3, 4, 5, 6, 7, 8] rfl
      have hD9 := hD.sub (ws' := [(h0, .inr (2, [.ref qm, .ref qs, .int (mI St), .int (mI Mv), .int (mI Sm), .int (mI Ho), .ref q1, .ref q2, .ref q3, .ref q4, .int (mI Su), .int (mI (orU Mv (hsR St Mv Mt Oo X Y) n)), .int (mI Sd), .int (mI Od), .int (mI Sp), .int (mI Oq), .ref q5])), (qm, .inr (4, [.int (nI n), .int (mI S), .int (mI Ce), .ref qh, .ref qn])), (q1, .inl (cI, 12, .inl (fun j => mI (Mt j)))), (qs, .inr (3, [.int tn, .ref qu, .ref qo, .ref qx, .ref qy, .ref qr, .ref qw])), (qo, .inl (cI, 12, .inl (fun j => nI (Oo j)))), (qx, .inl (cI, 12, .inl (fun j => nI (X j)))), (qy, .inl (cI, 12, .inl (fun j => nI (Y j)))), (q2, .inl (cI, 12, .inl (fun j => mI (upTo (bkR St Mv Mt Oo X Y j) n)))), (q3, .inl (cI, 12, .inl (fun j => mI (upTo (caR St Mt Oo X Y j) n))))]) [0, 1, 2, 3, 4, 5, 6, 7, 8] (by decide) rfl
      exact W.vret hx hb hr (fun t ht hW => ⟨⟨(), rfl, trivial, by rw [ht]; exact hP9, hD9⟩, hS.F ht⟩) hS.2.2 d_Se_readHelpers_168
    | succ k ih =>
      intro i ls H locs hi hl hP hD hS
      have hlt : i < n := by omega
      have hlt12 : i < 12 := by omega
      refine lv_iload_n hx hb d_Se_readHelpers_2 rfl (lv_at hl 0 rfl) ?_
      refine lv_aload_n hx hb d_Se_readHelpers_3 rfl (lv_at hl 1 rfl) ?_
      refine va_get (D := D) (ci := 2) (v := .ref qm) (C := R_Se) (T := T_Se) (N := 17) hx hb hts hin_Se hown hK hP 0 rfl rfl 0 (by decide) (hts _ wd_103) (fun _ h9 => h9) rfl d_Se_readHelpers_4 ?_
      refine va_get (D := D) (ci := 4) (v := .int (nI n)) (C := R_Wm) (T := T_Wm) (N := 5) hx hb hts hin_Wm hown hK hP 1 rfl rfl 0 (by decide) (hts _ wd_33) (fun _ h9 => h9) rfl d_Se_readHelpers_7 ?_
      refine lv_icmp_ge (tgt := 168) hx hb d_Se_readHelpers_10 (by decide) (fun h0 => absurd h0 (nI_ge hlt (by omega))) (fun _ => ?_)
      refine lv_aload_n hx hb d_Se_readHelpers_13 rfl (lv_at hl 1 rfl) ?_
      refine va_get (D := D) (ci := 2) (v := .int (mI St)) (C := R_Se) (T := T_Se) (N := 17) hx hb hts hin_Se hown hK hP 0 rfl rfl 2 (by decide) (hts _ wd_105) (fun _ h9 => h9) rfl d_Se_readHelpers_14 ?_
      refine lv_iload_n hx hb d_Se_readHelpers_17 rfl (lv_at hl 0 rfl) ?_
      have hPc := hP.sub (ws' := []) [] rfl
      refine vp_callSi (va_Run.run (va_runSN (As := [.int (mI St), .int (nI i)]) (rest := []) ⟨hx, hb, hml, hown, hts⟩ (c_Sw_in l D cI cZ cJ cS aT ceT  St i hlt12) (⟨va_cnB 2 hts (tb_c wd_285) rfl rfl rfl hX.2.2.2.2.2.2.2.1 (hts _ wd_1) ⟨by decide, by decide, by decide +kernel⟩ ⟨Nat.le_of_ble_eq_true rfl, Nat.le_of_ble_eq_true rfl⟩, hts _ wd_284, trivial⟩) (tP_S hK hX (hS.2.1 aT hXl hXn) hPc) rfl rfl hl.1 rfl (lv_room (Nat.le_of_ble_eq_true rfl)) d_Se_readHelpers_18 ⟨Nat.le_of_ble_eq_true rfl, Nat.le_of_ble_eq_true rfl⟩)) (fun r3 hr9 => ?_)
      rw [hr9]
      rcases bI_c (St i) with ⟨hb5, e9⟩ | ⟨hb5, e9⟩
      · refine tr_top e9 ?_
        refine lv_if_ne (tgt := 27) hx hb d_Se_readHelpers_21 (by decide) (fun _ => ?_) (fun h0 => absurd h0 (by decide))
        refine lv_aload_n hx hb d_Se_readHelpers_27 rfl (lv_at hl 1 rfl) ?_
        refine va_get (D := D) (ci := 2) (v := .ref qs) (C := R_Se) (T := T_Se) (N := 17) hx hb hts hin_Se hown hK hP 0 rfl rfl 1 (by decide) (hts _ wd_104) (fun _ h9 => h9) rfl d_Se_readHelpers_28 ?_
        refine va_get (D := D) (ci := 3) (v := .ref qx) (C := R_Sh) (T := T_Sh) (N := 7) hx hb hts hin_Sh hown hK hP 3 rfl rfl 3 (by decide) (hts _ wd_72) (fun _ h9 => h9) rfl d_Se_readHelpers_31 ?_
        refine lv_iload_n hx hb d_Se_readHelpers_34 rfl (lv_at hl 0 rfl) ?_
        refine tr_iald (v := nI (X i)) hx hb hK hP 5 0 rfl rfl i hlt12 (by decide) rfl d_Se_readHelpers_35 ?_
        refine lv_istore_n (lv' := [(2, .int (nI (X i))), (1, .int (nI i)), (0, .ref h0)]) hx hb d_Se_readHelpers_36 rfl hl (by decide) rfl (fun ls hl => ?_)
        refine lv_aload_n hx hb d_Se_readHelpers_37 rfl (lv_at hl 2 rfl) ?_
        refine va_get (D := D) (ci := 2) (v := .ref qs) (C := R_Se) (T := T_Se) (N := 17) hx hb hts hin_Se hown hK hP 0 rfl rfl 1 (by decide) (hts _ wd_104) (fun _ h9 => h9) rfl d_Se_readHelpers_38 ?_
        refine va_get (D := D) (ci := 3) (v := .ref qy) (C := R_Sh) (T := T_Sh) (N := 7) hx hb hts hin_Sh hown hK hP 3 rfl rfl 4 (by decide) (hts _ wd_75) (fun _ h9 => h9) rfl d_Se_readHelpers_41 ?_
        refine lv_iload_n hx hb d_Se_readHelpers_44 rfl (lv_at hl 1 rfl) ?_
        refine tr_iald (v := nI (Y i)) hx hb hK hP 6 0 rfl rfl i hlt12 (by decide) rfl d_Se_readHelpers_45 ?_
        refine lv_istore_n (lv' := [(3, .int (nI (Y i))), (2, .int (nI (X i))), (1, .int (nI i)), (0, .ref h0)]) hx hb d_Se_readHelpers_46 rfl hl (by decide) rfl (fun ls hl => ?_)
        refine lv_aload_n hx hb d_Se_readHelpers_47 rfl (lv_at hl 3 rfl) ?_
        refine va_get (D := D) (ci := 2) (v := .ref q1) (C := R_Se) (T := T_Se) (N := 17) hx hb hts hin_Se hown hK hP 0 rfl rfl 6 (by decide) (hts _ wd_109) (fun _ h9 => h9) rfl d_Se_readHelpers_48 ?_
        refine lv_iload_n hx hb d_Se_readHelpers_51 rfl (lv_at hl 0 rfl) ?_
        refine tr_iald (v := mI (Mt (Y i))) hx hb hK hP 2 0 rfl rfl (Y i) (hY12 _) (by decide) rfl d_Se_readHelpers_52 ?_
        refine lv_iload_n hx hb d_Se_readHelpers_53 rfl (lv_at hl 1 rfl) ?_
        have hPc := hP.sub (ws' := []) [] rfl
        refine vp_callSi (va_Run.run (va_runSN (As := [.int (mI (Mt (Y i))), .int (nI (X i))]) (rest := []) ⟨hx, hb, hml, hown, hts⟩ (c_Sw_in l D cI cZ cJ cS aT ceT  (Mt (Y i)) (X i) (hX12 _)) (⟨va_cnB 2 hts (tb_c wd_285) rfl rfl rfl hX.2.2.2.2.2.2.2.1 (hts _ wd_1) ⟨by decide, by decide, by decide +kernel⟩ ⟨Nat.le_of_ble_eq_true rfl, Nat.le_of_ble_eq_true rfl⟩, hts _ wd_284, trivial⟩) (tP_S hK hX (hS.2.1 aT hXl hXn) hPc) rfl rfl hl.1 rfl (lv_room (Nat.le_of_ble_eq_true rfl)) d_Se_readHelpers_54 ⟨Nat.le_of_ble_eq_true rfl, Nat.le_of_ble_eq_true rfl⟩)) (fun r7 hr9 => ?_)
        rw [hr9]
        refine lv_istore (lv' := [(4, .int (bI ((Mt (Y i)) (X i)))), (3, .int (nI (Y i))), (2, .int (nI (X i))), (1, .int (nI i)), (0, .ref h0)]) hx hb d_Se_readHelpers_57 hl (by decide) rfl (fun ls hl => ?_)
        refine lv_iload_n hx hb d_Se_readHelpers_59 rfl (lv_at hl 2 rfl) ?_
        refine lv_iload_n hx hb d_Se_readHelpers_60 rfl (lv_at hl 1 rfl) ?_
        refine lv_icmp_ne (tgt := 79) hx hb d_Se_readHelpers_61 (by decide) (fun hc8 => ?_) (fun hc8 => ?_)
        · -- 61 taken
          have hc8 : ¬ X i = Y i := fun h9 => hc8 (congrArg nI h9)
          refine lv_iconst (v := 0) hx hb d_Se_readHelpers_79 (by decide) ?_
          refine lv_istore (lv' := [(5, .int 0), (4, .int (bI ((Mt (Y i)) (X i)))), (3, .int (nI (Y i))), (2, .int (nI (X i))), (1, .int (nI i)), (0, .ref h0)]) hx hb d_Se_readHelpers_80 hl (by decide) rfl (fun ls hl => ?_)
          refine lv_aload_n hx hb d_Se_readHelpers_82 rfl (lv_at hl 5 rfl) ?_
          refine va_get (D := D) (ci := 2) (v := .ref qs) (C := R_Se) (T := T_Se) (N := 17) hx hb hts hin_Se hown hK hP 0 rfl rfl 1 (by decide) (hts _ wd_104) (fun _ h9 => h9) rfl d_Se_readHelpers_83 ?_
          refine va_get (D := D) (ci := 3) (v := .ref qo) (C := R_Sh) (T := T_Sh) (N := 7) hx hb hts hin_Sh hown hK hP 3 rfl rfl 2 (by decide) (hts _ wd_69) (fun _ h9 => h9) rfl d_Se_readHelpers_86 ?_
          refine lv_iload_n hx hb d_Se_readHelpers_89 rfl (lv_at hl 4 rfl) ?_
          refine tr_iald (v := nI (Oo i)) hx hb hK hP 4 0 rfl rfl i hlt12 (by decide) rfl d_Se_readHelpers_90 ?_
          refine lv_iconst (v := 2) hx hb d_Se_readHelpers_91 (by decide) ?_
          refine lv_icmp_ne (tgt := 131) hx hb d_Se_readHelpers_92 (by decide) (fun hc9 => ?_) (fun hc9 => ?_)
          · -- 92 taken
            have hc9 : ¬ Oo i = 2 := fun h9 => hc9 (congrArg nI h9)
            refine lv_aload_n hx hb d_Se_readHelpers_131 rfl (lv_at hl 5 rfl) ?_
            refine va_get (D := D) (ci := 2) (v := .ref qs) (C := R_Se) (T := T_Se) (N := 17) hx hb hts hin_Se hown hK hP 0 rfl rfl 1 (by decide) (hts _ wd_104) (fun _ h9 => h9) rfl d_Se_readHelpers_132 ?_
            refine va_get (D := D) (ci := 3) (v := .ref qo) (C := R_Sh) (T := T_Sh) (N := 7) hx hb hts hin_Sh hown hK hP 3 rfl rfl 2 (by decide) (hts _ wd_69) (fun _ h9 => h9) rfl d_Se_readHelpers_135 ?_
            refine lv_iload_n hx hb d_Se_readHelpers_138 rfl (lv_at hl 4 rfl) ?_
            refine tr_iald (v := nI (Oo i)) hx hb hK hP 4 0 rfl rfl i hlt12 (by decide) rfl d_Se_readHelpers_139 ?_
            refine lv_iconst (v := 3) hx hb d_Se_readHelpers_140 (by decide) ?_
            refine lv_icmp_ne (tgt := 162) hx hb d_Se_readHelpers_141 (by decide) (fun hc10 => ?_) (fun hc10 => ?_)
            · -- 141 taken
              have hc10 : ¬ Oo i = 3 := fun h9 => hc10 (congrArg nI h9)
              refine lv_iinc (lv' := [(1, .int ((nI i) + 1)), (5, .int 0), (4, .int (bI ((Mt (Y i)) (X i)))), (3, .int (nI (Y i))), (2, .int (nI (X i))), (0, .ref h0)]) hx hb d_Se_readHelpers_162 hl (k := 4) rfl rfl (by decide) rfl (fun ls hl => ?_)
              refine lv_goto (tgt := 2) hx hb d_Se_readHelpers_165 (by decide) ?_
              have e11 : (nI i) + 1 = nI (i + 1) := nI_1 i
              have eo12 : (mI (orU Mv (hsR St Mv Mt Oo X Y) i)) = (mI (orU Mv (hsR St Mv Mt Oo X Y) (i + 1))) := mI_orN (show (hsR St Mv Mt Oo X Y) i = false by simp only [hsR, hb5] <;> simp [hsR, hb5, hc8, hc9, hc10])
              have eo13 : (fun j => mI (upTo (bkR St Mv Mt Oo X Y j) i)) = (fun j => mI (upTo (bkR St Mv Mt Oo X Y j) (i + 1))) := upT_N (R := (bkR St Mv Mt Oo X Y)) (fun x => by simp only [bkR, hsR, hb5] <;> simp [bkR, hsR, hb5, hc8, hc9, hc10])
              have eo14 : (fun j => mI (upTo (caR St Mt Oo X Y j) i)) = (fun j => mI (upTo (caR St Mt Oo X Y j) (i + 1))) := upT_N (R := (caR St Mt Oo X Y)) (fun x => by simp only [caR, hb5] <;> simp [caR, hb5, hc8, hc9, hc10])
              exact ih (i + 1) ls H locs (by omega) (by rw [← e11]; exact lv_sub hl [0, 5] rfl) (by rw [← eo12, ← eo13, ← eo14]; exact hP) (by rw [← eo12, ← eo13, ← eo14]; exact hD) hS
            · -- 141 not taken
              have hc10 : Oo i = 3 := (nI_lit (Nat.lt_trans (hO4 _) (by decide)) (by decide)).mp hc10
              refine lv_iload hx hb d_Se_readHelpers_144 (lv_at hl 1 rfl) ?_
              rcases bI_c ((Mt (Y i)) (X i)) with ⟨hb16, e9⟩ | ⟨hb16, e9⟩
              · refine tr_top e9 ?_
                refine lv_if_eq (tgt := 162) hx hb d_Se_readHelpers_146 (by decide) (fun h0 => absurd h0 (by decide)) (fun _ => ?_)
                refine lv_aload_n hx hb d_Se_readHelpers_149 rfl (lv_at hl 5 rfl) ?_
                refine va_get (D := D) (ci := 2) (v := .ref q3) (C := R_Se) (T := T_Se) (N := 17) hx hb hts hin_Se hown hK hP 0 rfl rfl 8 (by decide) (hts _ wd_111) (fun _ h9 => h9) rfl d_Se_readHelpers_150 ?_
                refine lv_iload_n hx hb d_Se_readHelpers_153 rfl (lv_at hl 3 rfl) ?_
                refine lv_dup2_11 hx hb d_Se_readHelpers_154 rfl rfl ?_
                refine tr_iald (v := mI (upTo (caR St Mt Oo X Y (X i)) i)) hx hb hK hP 8 0 rfl rfl (X i) (hX12 _) (by decide) rfl d_Se_readHelpers_155 ?_
                refine lv_iload_n hx hb d_Se_readHelpers_156 rfl (lv_at hl 4 rfl) ?_
                have hPc := hP.sub (ws' := []) [] rfl
                refine vp_callSi (va_Run.run (va_runSN (As := [.int (nI i)]) (rest := [.int (mI (upTo (caR St Mt Oo X Y (X i)) i)), .int (nI (X i)), .ref q3]) ⟨hx, hb, hml, hown, hts⟩ (c_Sw_bitN l D cI cZ cJ cS aT ceT  i hlt12) (⟨va_cnB 1 hts (tb_c wd_411) rfl rfl rfl hX.2.2.2.2.2.2.2.2.1 (hts _ wd_1) ⟨by decide, by decide, by decide +kernel⟩ ⟨Nat.le_of_ble_eq_true rfl, Nat.le_of_ble_eq_true rfl⟩, hts _ wd_410, trivial⟩) (tP_S hK hX (hS.2.1 aT hXl hXn) hPc) rfl rfl hl.1 rfl (lv_room (Nat.le_of_ble_eq_true rfl)) d_Se_readHelpers_157 ⟨Nat.le_of_ble_eq_true rfl, Nat.le_of_ble_eq_true rfl⟩)) (fun r18 hr9 => ?_)
                rw [hr9]
                refine lv_ior hx hb d_Se_readHelpers_160 ?_
                refine tr_top (y := mI (fun j => upTo (caR St Mt Oo X Y (X i)) i j || decide (j = i))) (mI_or _ _) ?_
                refine tr_iast (g := fun j => mI (upS (fun j => upTo (caR St Mt Oo X Y j) i) (X i) (fun j => upTo (caR St Mt Oo X Y (X i)) i j || decide (j = i)) j)) hx hb hK hP hD hS 8 0 rfl rfl (X i) (hX12 _) (by decide) (upS_I (fun j => upTo (caR St Mt Oo X Y j) i) (X i) (fun j => upTo (caR St Mt Oo X Y (X i)) i j || decide (j = i))) d_Se_readHelpers_161 (fun H locs hP hD hS => ?_)
                have hP : va_P D vwCl [(h0, .inr (2, [.ref qm, .ref qs, .int (mI St), .int (mI Mv), .int (mI Sm), .int (mI Ho), .ref q1, .ref q2, .ref q3, .ref q4, .int (mI Su), .int (mI (orU Mv (hsR St Mv Mt Oo X Y) i)), .int (mI Sd), .int (mI Od), .int (mI Sp), .int (mI Oq), .ref q5])), (qm, .inr (4, [.int (nI n), .int (mI S), .int (mI Ce), .ref qh, .ref qn])), (q1, .inl (cI, 12, .inl (fun j => mI (Mt j)))), (qs, .inr (3, [.int tn, .ref qu, .ref qo, .ref qx, .ref qy, .ref qr, .ref qw])), (qo, .inl (cI, 12, .inl (fun j => nI (Oo j)))), (qx, .inl (cI, 12, .inl (fun j => nI (X j)))), (qy, .inl (cI, 12, .inl (fun j => nI (Y j)))), (q2, .inl (cI, 12, .inl (fun j => mI (upTo (bkR St Mv Mt Oo X Y j) i)))), (q3, .inl (cI, 12, .inl (fun j => mI (upS (fun j => upTo (caR St Mt Oo X Y j) i) (X i) (fun j => upTo (caR St Mt Oo X Y (X i)) i j || decide (j = i)) j))))] H := hP
                have hD : va_D A [(h0, .inr (2, [.ref qm, .ref qs, .int (mI St), .int (mI Mv), .int (mI Sm), .int (mI Ho), .ref q1, .ref q2, .ref q3, .ref q4, .int (mI Su), .int (mI (orU Mv (hsR St Mv Mt Oo X Y) i)), .int (mI Sd), .int (mI Od), .int (mI Sp), .int (mI Oq), .ref q5])), (qm, .inr (4, [.int (nI n), .int (mI S), .int (mI Ce), .ref qh, .ref qn])), (q1, .inl (cI, 12, .inl (fun j => mI (Mt j)))), (qs, .inr (3, [.int tn, .ref qu, .ref qo, .ref qx, .ref qy, .ref qr, .ref qw])), (qo, .inl (cI, 12, .inl (fun j => nI (Oo j)))), (qx, .inl (cI, 12, .inl (fun j => nI (X j)))), (qy, .inl (cI, 12, .inl (fun j => nI (Y j)))), (q2, .inl (cI, 12, .inl (fun j => mI (upTo (bkR St Mv Mt Oo X Y j) i)))), (q3, .inl (cI, 12, .inl (fun j => mI (upS (fun j => upTo (caR St Mt Oo X Y j) i) (X i) (fun j => upTo (caR St Mt Oo X Y (X i)) i j || decide (j = i)) j))))] := hD
                refine lv_iinc (lv' := [(1, .int ((nI i) + 1)), (5, .int 0), (4, .int (bI ((Mt (Y i)) (X i)))), (3, .int (nI (Y i))), (2, .int (nI (X i))), (0, .ref h0)]) hx hb d_Se_readHelpers_162 hl (k := 4) rfl rfl (by decide) rfl (fun ls hl => ?_)
                refine lv_goto (tgt := 2) hx hb d_Se_readHelpers_165 (by decide) ?_
                have e19 : (nI i) + 1 = nI (i + 1) := nI_1 i
                have eo20 : (mI (orU Mv (hsR St Mv Mt Oo X Y) i)) = (mI (orU Mv (hsR St Mv Mt Oo X Y) (i + 1))) := mI_orN (show (hsR St Mv Mt Oo X Y) i = false by simp only [hsR, hb5, hb16] <;> simp [hsR, hb5, hc8, hc9, hc10, hb16])
                have eo21 : (fun j => mI (upTo (bkR St Mv Mt Oo X Y j) i)) = (fun j => mI (upTo (bkR St Mv Mt Oo X Y j) (i + 1))) := upT_N (R := (bkR St Mv Mt Oo X Y)) (fun x => by simp only [bkR, hsR, hb5, hb16] <;> simp [bkR, hsR, hb5, hc8, hc9, hc10, hb16])
                have eo22 : (fun j => mI (upS (fun j => upTo (caR St Mt Oo X Y j) i) (X i) (fun j => upTo (caR St Mt Oo X Y (X i)) i j || decide (j = i)) j)) = (fun j => mI (upTo (caR St Mt Oo X Y j) (i + 1))) := upT_Y (R := (caR St Mt Oo X Y)) (by simp only [caR, hb5, hb16] <;> simp [caR, hb5, hc8, hc9, hc10, hb16]) (fun x hx9 => by simp only [caR, hb5, hb16, hx9] <;> simp [caR, hb5, hc8, hc9, hc10, hb16, hx9])
                exact ih (i + 1) ls H locs (by omega) (by rw [← e19]; exact lv_sub hl [0, 5] rfl) (by rw [← eo20, ← eo21, ← eo22]; exact hP) (by rw [← eo20, ← eo21, ← eo22]; exact hD) hS
              · refine tr_top e9 ?_
                refine lv_if_eq (tgt := 162) hx hb d_Se_readHelpers_146 (by decide) (fun _ => ?_) (fun h0 => absurd (by decide) h0)
                refine lv_iinc (lv' := [(1, .int ((nI i) + 1)), (5, .int 0), (4, .int (bI ((Mt (Y i)) (X i)))), (3, .int (nI (Y i))), (2, .int (nI (X i))), (0, .ref h0)]) hx hb d_Se_readHelpers_162 hl (k := 4) rfl rfl (by decide) rfl (fun ls hl => ?_)
                refine lv_goto (tgt := 2) hx hb d_Se_readHelpers_165 (by decide) ?_
                have e24 : (nI i) + 1 = nI (i + 1) := nI_1 i
                have eo25 : (mI (orU Mv (hsR St Mv Mt Oo X Y) i)) = (mI (orU Mv (hsR St Mv Mt Oo X Y) (i + 1))) := mI_orN (show (hsR St Mv Mt Oo X Y) i = false by simp only [hsR, hb5, hb16] <;> simp [hsR, hb5, hc8, hc9, hc10, hb16])
                have eo26 : (fun j => mI (upTo (bkR St Mv Mt Oo X Y j) i)) = (fun j => mI (upTo (bkR St Mv Mt Oo X Y j) (i + 1))) := upT_N (R := (bkR St Mv Mt Oo X Y)) (fun x => by simp only [bkR, hsR, hb5, hb16] <;> simp [bkR, hsR, hb5, hc8, hc9, hc10, hb16])
                have eo27 : (fun j => mI (upTo (caR St Mt Oo X Y j) i)) = (fun j => mI (upTo (caR St Mt Oo X Y j) (i + 1))) := upT_N (R := (caR St Mt Oo X Y)) (fun x => by simp only [caR, hb5, hb16] <;> simp [caR, hb5, hc8, hc9, hc10, hb16])
                exact ih (i + 1) ls H locs (by omega) (by rw [← e24]; exact lv_sub hl [0, 5] rfl) (by rw [← eo25, ← eo26, ← eo27]; exact hP) (by rw [← eo25, ← eo26, ← eo27]; exact hD) hS
          · -- 92 not taken
            have hc9 : Oo i = 2 := (nI_lit (Nat.lt_trans (hO4 _) (by decide)) (by decide)).mp hc9
            refine lv_iload hx hb d_Se_readHelpers_95 (lv_at hl 1 rfl) ?_
            rcases bI_c ((Mt (Y i)) (X i)) with ⟨hb29, e9⟩ | ⟨hb29, e9⟩
            · refine tr_top e9 ?_
              refine lv_if_ne (tgt := 105) hx hb d_Se_readHelpers_97 (by decide) (fun _ => ?_) (fun h0 => absurd h0 (by decide))
              refine lv_aload_n hx hb d_Se_readHelpers_105 rfl (lv_at hl 5 rfl) ?_
              refine va_get (D := D) (ci := 2) (v := .ref q2) (C := R_Se) (T := T_Se) (N := 17) hx hb hts hin_Se hown hK hP 0 rfl rfl 7 (by decide) (hts _ wd_110) (fun _ h9 => h9) rfl d_Se_readHelpers_106 ?_
              refine lv_iload_n hx hb d_Se_readHelpers_109 rfl (lv_at hl 3 rfl) ?_
              refine lv_dup2_11 hx hb d_Se_readHelpers_110 rfl rfl ?_
              refine tr_iald (v := mI (upTo (bkR St Mv Mt Oo X Y (X i)) i)) hx hb hK hP 7 0 rfl rfl (X i) (hX12 _) (by decide) rfl d_Se_readHelpers_111 ?_
              refine lv_iload_n hx hb d_Se_readHelpers_112 rfl (lv_at hl 4 rfl) ?_
              have hPc := hP.sub (ws' := []) [] rfl
              refine vp_callSi (va_Run.run (va_runSN (As := [.int (nI i)]) (rest := [.int (mI (upTo (bkR St Mv Mt Oo X Y (X i)) i)), .int (nI (X i)), .ref q2]) ⟨hx, hb, hml, hown, hts⟩ (c_Sw_bitN l D cI cZ cJ cS aT ceT  i hlt12) (⟨va_cnB 1 hts (tb_c wd_411) rfl rfl rfl hX.2.2.2.2.2.2.2.2.1 (hts _ wd_1) ⟨by decide, by decide, by decide +kernel⟩ ⟨Nat.le_of_ble_eq_true rfl, Nat.le_of_ble_eq_true rfl⟩, hts _ wd_410, trivial⟩) (tP_S hK hX (hS.2.1 aT hXl hXn) hPc) rfl rfl hl.1 rfl (lv_room (Nat.le_of_ble_eq_true rfl)) d_Se_readHelpers_113 ⟨Nat.le_of_ble_eq_true rfl, Nat.le_of_ble_eq_true rfl⟩)) (fun r31 hr9 => ?_)
              rw [hr9]
              refine lv_ior hx hb d_Se_readHelpers_116 ?_
              refine tr_top (y := mI (fun j => upTo (bkR St Mv Mt Oo X Y (X i)) i j || decide (j = i))) (mI_or _ _) ?_
              refine tr_iast (g := fun j => mI (upS (fun j => upTo (bkR St Mv Mt Oo X Y j) i) (X i) (fun j => upTo (bkR St Mv Mt Oo X Y (X i)) i j || decide (j = i)) j)) hx hb hK hP hD hS 7 0 rfl rfl (X i) (hX12 _) (by decide) (upS_I (fun j => upTo (bkR St Mv Mt Oo X Y j) i) (X i) (fun j => upTo (bkR St Mv Mt Oo X Y (X i)) i j || decide (j = i))) d_Se_readHelpers_117 (fun H locs hP hD hS => ?_)
              have hP : va_P D vwCl [(h0, .inr (2, [.ref qm, .ref qs, .int (mI St), .int (mI Mv), .int (mI Sm), .int (mI Ho), .ref q1, .ref q2, .ref q3, .ref q4, .int (mI Su), .int (mI (orU Mv (hsR St Mv Mt Oo X Y) i)), .int (mI Sd), .int (mI Od), .int (mI Sp), .int (mI Oq), .ref q5])), (qm, .inr (4, [.int (nI n), .int (mI S), .int (mI Ce), .ref qh, .ref qn])), (q1, .inl (cI, 12, .inl (fun j => mI (Mt j)))), (qs, .inr (3, [.int tn, .ref qu, .ref qo, .ref qx, .ref qy, .ref qr, .ref qw])), (qo, .inl (cI, 12, .inl (fun j => nI (Oo j)))), (qx, .inl (cI, 12, .inl (fun j => nI (X j)))), (qy, .inl (cI, 12, .inl (fun j => nI (Y j)))), (q2, .inl (cI, 12, .inl (fun j => mI (upS (fun j => upTo (bkR St Mv Mt Oo X Y j) i) (X i) (fun j => upTo (bkR St Mv Mt Oo X Y (X i)) i j || decide (j = i)) j)))), (q3, .inl (cI, 12, .inl (fun j => mI (upTo (caR St Mt Oo X Y j) i))))] H := hP
              have hD : va_D A [(h0, .inr (2, [.ref qm, .ref qs, .int (mI St), .int (mI Mv), .int (mI Sm), .int (mI Ho), .ref q1, .ref q2, .ref q3, .ref q4, .int (mI Su), .int (mI (orU Mv (hsR St Mv Mt Oo X Y) i)), .int (mI Sd), .int (mI Od), .int (mI Sp), .int (mI Oq), .ref q5])), (qm, .inr (4, [.int (nI n), .int (mI S), .int (mI Ce), .ref qh, .ref qn])), (q1, .inl (cI, 12, .inl (fun j => mI (Mt j)))), (qs, .inr (3, [.int tn, .ref qu, .ref qo, .ref qx, .ref qy, .ref qr, .ref qw])), (qo, .inl (cI, 12, .inl (fun j => nI (Oo j)))), (qx, .inl (cI, 12, .inl (fun j => nI (X j)))), (qy, .inl (cI, 12, .inl (fun j => nI (Y j)))), (q2, .inl (cI, 12, .inl (fun j => mI (upS (fun j => upTo (bkR St Mv Mt Oo X Y j) i) (X i) (fun j => upTo (bkR St Mv Mt Oo X Y (X i)) i j || decide (j = i)) j)))), (q3, .inl (cI, 12, .inl (fun j => mI (upTo (caR St Mt Oo X Y j) i))))] := hD
              refine lv_aload_n hx hb d_Se_readHelpers_118 rfl (lv_at hl 5 rfl) ?_
              refine lv_dup hx hb d_Se_readHelpers_119 rfl ?_
              refine va_get (D := D) (ci := 2) (v := .int (mI (orU Mv (hsR St Mv Mt Oo X Y) i))) (C := R_Se) (T := T_Se) (N := 17) hx hb hts hin_Se hown hK hP 0 rfl rfl 11 (by decide) (hts _ wd_114) (fun _ h9 => h9) rfl d_Se_readHelpers_120 ?_
              refine lv_iload_n hx hb d_Se_readHelpers_123 rfl (lv_at hl 4 rfl) ?_
              have hPc := hP.sub (ws' := []) [] rfl
              refine vp_callSi (va_Run.run (va_runSN (As := [.int (nI i)]) (rest := [.int (mI (orU Mv (hsR St Mv Mt Oo X Y) i)), .ref h0]) ⟨hx, hb, hml, hown, hts⟩ (c_Sw_bitN l D cI cZ cJ cS aT ceT  i hlt12) (⟨va_cnB 1 hts (tb_c wd_411) rfl rfl rfl hX.2.2.2.2.2.2.2.2.1 (hts _ wd_1) ⟨by decide, by decide, by decide +kernel⟩ ⟨Nat.le_of_ble_eq_true rfl, Nat.le_of_ble_eq_true rfl⟩, hts _ wd_410, trivial⟩) (tP_S hK hX (hS.2.1 aT hXl hXn) hPc) rfl rfl hl.1 rfl (lv_room (Nat.le_of_ble_eq_true rfl)) d_Se_readHelpers_124 ⟨Nat.le_of_ble_eq_true rfl, Nat.le_of_ble_eq_true rfl⟩)) (fun r32 hr9 => ?_)
              rw [hr9]
              refine lv_ior hx hb d_Se_readHelpers_127 ?_
              refine tr_top (y := mI (fun j => orU Mv (hsR St Mv Mt Oo X Y) i j || decide (j = i))) (mI_or _ _) ?_
              refine va_put (D := D) (ci := 2) (v := .int (mI (fun j => orU Mv (hsR St Mv Mt Oo X Y) i j || decide (j = i)))) (ty := .int) (C := R_Se) (T := T_Se) (N := 17) hx hb hts hin_Se ty_Se tyok_Se nm_Se hown hK hP hD hS 0 rfl rfl 11 (by decide) (hts _ wd_114) (fun _ h9 => h9) rfl (by decide +kernel) rfl rfl (Nat.le_of_ble_eq_true rfl) d_Se_readHelpers_128 (fun H locs hP hD hS => ?_)
              have hP : va_P D vwCl [(h0, .inr (2, [.ref qm, .ref qs, .int (mI St), .int (mI Mv), .int (mI Sm), .int (mI Ho), .ref q1, .ref q2, .ref q3, .ref q4, .int (mI Su), .int (mI (fun j => orU Mv (hsR St Mv Mt Oo X Y) i j || decide (j = i))), .int (mI Sd), .int (mI Od), .int (mI Sp), .int (mI Oq), .ref q5])), (qm, .inr (4, [.int (nI n), .int (mI S), .int (mI Ce), .ref qh, .ref qn])), (q1, .inl (cI, 12, .inl (fun j => mI (Mt j)))), (qs, .inr (3, [.int tn, .ref qu, .ref qo, .ref qx, .ref qy, .ref qr, .ref qw])), (qo, .inl (cI, 12, .inl (fun j => nI (Oo j)))), (qx, .inl (cI, 12, .inl (fun j => nI (X j)))), (qy, .inl (cI, 12, .inl (fun j => nI (Y j)))), (q2, .inl (cI, 12, .inl (fun j => mI (upS (fun j => upTo (bkR St Mv Mt Oo X Y j) i) (X i) (fun j => upTo (bkR St Mv Mt Oo X Y (X i)) i j || decide (j = i)) j)))), (q3, .inl (cI, 12, .inl (fun j => mI (upTo (caR St Mt Oo X Y j) i))))] H := hP
              have hD : va_D A [(h0, .inr (2, [.ref qm, .ref qs, .int (mI St), .int (mI Mv), .int (mI Sm), .int (mI Ho), .ref q1, .ref q2, .ref q3, .ref q4, .int (mI Su), .int (mI (fun j => orU Mv (hsR St Mv Mt Oo X Y) i j || decide (j = i))), .int (mI Sd), .int (mI Od), .int (mI Sp), .int (mI Oq), .ref q5])), (qm, .inr (4, [.int (nI n), .int (mI S), .int (mI Ce), .ref qh, .ref qn])), (q1, .inl (cI, 12, .inl (fun j => mI (Mt j)))), (qs, .inr (3, [.int tn, .ref qu, .ref qo, .ref qx, .ref qy, .ref qr, .ref qw])), (qo, .inl (cI, 12, .inl (fun j => nI (Oo j)))), (qx, .inl (cI, 12, .inl (fun j => nI (X j)))), (qy, .inl (cI, 12, .inl (fun j => nI (Y j)))), (q2, .inl (cI, 12, .inl (fun j => mI (upS (fun j => upTo (bkR St Mv Mt Oo X Y j) i) (X i) (fun j => upTo (bkR St Mv Mt Oo X Y (X i)) i j || decide (j = i)) j)))), (q3, .inl (cI, 12, .inl (fun j => mI (upTo (caR St Mt Oo X Y j) i))))] := hD
              refine lv_aload_n hx hb d_Se_readHelpers_131 rfl (lv_at hl 5 rfl) ?_
              refine va_get (D := D) (ci := 2) (v := .ref qs) (C := R_Se) (T := T_Se) (N := 17) hx hb hts hin_Se hown hK hP 0 rfl rfl 1 (by decide) (hts _ wd_104) (fun _ h9 => h9) rfl d_Se_readHelpers_132 ?_
              refine va_get (D := D) (ci := 3) (v := .ref qo) (C := R_Sh) (T := T_Sh) (N := 7) hx hb hts hin_Sh hown hK hP 3 rfl rfl 2 (by decide) (hts _ wd_69) (fun _ h9 => h9) rfl d_Se_readHelpers_135 ?_
              refine lv_iload_n hx hb d_Se_readHelpers_138 rfl (lv_at hl 4 rfl) ?_
              refine tr_iald (v := nI (Oo i)) hx hb hK hP 4 0 rfl rfl i hlt12 (by decide) rfl d_Se_readHelpers_139 ?_
              refine lv_iconst (v := 3) hx hb d_Se_readHelpers_140 (by decide) ?_
              refine lv_icmp_ne (tgt := 162) hx hb d_Se_readHelpers_141 (by decide) (fun _ => ?_) (fun h0 => absurd ((nI_lit (Nat.lt_trans (hO4 _) (by decide)) (by decide)).mp h0) (fun h8 => absurd (hc9.symm.trans h8) (by decide)))
              refine lv_iinc (lv' := [(1, .int ((nI i) + 1)), (5, .int 0), (4, .int (bI ((Mt (Y i)) (X i)))), (3, .int (nI (Y i))), (2, .int (nI (X i))), (0, .ref h0)]) hx hb d_Se_readHelpers_162 hl (k := 4) rfl rfl (by decide) rfl (fun ls hl => ?_)
              refine lv_goto (tgt := 2) hx hb d_Se_readHelpers_165 (by decide) ?_
              have e34 : (nI i) + 1 = nI (i + 1) := nI_1 i
              have eo35 : (mI (fun j => orU Mv (hsR St Mv Mt Oo X Y) i j || decide (j = i))) = (mI (orU Mv (hsR St Mv Mt Oo X Y) (i + 1))) := mI_orY (show (hsR St Mv Mt Oo X Y) i = true by simp only [hsR, hb5, hb29] <;> simp [hsR, hb5, hc8, hc9, hb29])
              have eo36 : (fun j => mI (upS (fun j => upTo (bkR St Mv Mt Oo X Y j) i) (X i) (fun j => upTo (bkR St Mv Mt Oo X Y (X i)) i j || decide (j = i)) j)) = (fun j => mI (upTo (bkR St Mv Mt Oo X Y j) (i + 1))) := upT_Y (R := (bkR St Mv Mt Oo X Y)) (by simp only [bkR, hsR, hb5, hb29] <;> simp [bkR, hsR, hb5, hc8, hc9, hb29]) (fun x hx9 => by simp only [bkR, hsR, hb5, hb29, hx9] <;> simp [bkR, hsR, hb5, hc8, hc9, hb29, hx9])
              have eo37 : (fun j => mI (upTo (caR St Mt Oo X Y j) i)) = (fun j => mI (upTo (caR St Mt Oo X Y j) (i + 1))) := upT_N (R := (caR St Mt Oo X Y)) (fun x => by simp only [caR, hb5, hb29] <;> simp [caR, hb5, hc8, hc9, hb29])
              exact ih (i + 1) ls H locs (by omega) (by rw [← e34]; exact lv_sub hl [0, 5] rfl) (by rw [← eo35, ← eo36, ← eo37]; exact hP) (by rw [← eo35, ← eo36, ← eo37]; exact hD) hS
            · refine tr_top e9 ?_
              refine lv_if_ne (tgt := 105) hx hb d_Se_readHelpers_97 (by decide) (fun h0 => absurd (by decide) h0) (fun _ => ?_)
              refine lv_iload hx hb d_Se_readHelpers_100 (lv_at hl 0 rfl) ?_
              refine lv_if_eq (tgt := 131) hx hb d_Se_readHelpers_102 (by decide) (fun _ => ?_) (fun h0 => absurd (by decide) h0)
              refine lv_aload_n hx hb d_Se_readHelpers_131 rfl (lv_at hl 5 rfl) ?_
              refine va_get (D := D) (ci := 2) (v := .ref qs) (C := R_Se) (T := T_Se) (N := 17) hx hb hts hin_Se hown hK hP 0 rfl rfl 1 (by decide) (hts _ wd_104) (fun _ h9 => h9) rfl d_Se_readHelpers_132 ?_
              refine va_get (D := D) (ci := 3) (v := .ref qo) (C := R_Sh) (T := T_Sh) (N := 7) hx hb hts hin_Sh hown hK hP 3 rfl rfl 2 (by decide) (hts _ wd_69) (fun _ h9 => h9) rfl d_Se_readHelpers_135 ?_
              refine lv_iload_n hx hb d_Se_readHelpers_138 rfl (lv_at hl 4 rfl) ?_
              refine tr_iald (v := nI (Oo i)) hx hb hK hP 4 0 rfl rfl i hlt12 (by decide) rfl d_Se_readHelpers_139 ?_
              refine lv_iconst (v := 3) hx hb d_Se_readHelpers_140 (by decide) ?_
              refine lv_icmp_ne (tgt := 162) hx hb d_Se_readHelpers_141 (by decide) (fun _ => ?_) (fun h0 => absurd ((nI_lit (Nat.lt_trans (hO4 _) (by decide)) (by decide)).mp h0) (fun h8 => absurd (hc9.symm.trans h8) (by decide)))
              refine lv_iinc (lv' := [(1, .int ((nI i) + 1)), (5, .int 0), (4, .int (bI ((Mt (Y i)) (X i)))), (3, .int (nI (Y i))), (2, .int (nI (X i))), (0, .ref h0)]) hx hb d_Se_readHelpers_162 hl (k := 4) rfl rfl (by decide) rfl (fun ls hl => ?_)
              refine lv_goto (tgt := 2) hx hb d_Se_readHelpers_165 (by decide) ?_
              have e41 : (nI i) + 1 = nI (i + 1) := nI_1 i
              have eo42 : (mI (orU Mv (hsR St Mv Mt Oo X Y) i)) = (mI (orU Mv (hsR St Mv Mt Oo X Y) (i + 1))) := mI_orN (show (hsR St Mv Mt Oo X Y) i = false by simp only [hsR, hb5, hb29] <;> simp [hsR, hb5, hc8, hc9, hb29])
              have eo43 : (fun j => mI (upTo (bkR St Mv Mt Oo X Y j) i)) = (fun j => mI (upTo (bkR St Mv Mt Oo X Y j) (i + 1))) := upT_N (R := (bkR St Mv Mt Oo X Y)) (fun x => by simp only [bkR, hsR, hb5, hb29] <;> simp [bkR, hsR, hb5, hc8, hc9, hb29])
              have eo44 : (fun j => mI (upTo (caR St Mt Oo X Y j) i)) = (fun j => mI (upTo (caR St Mt Oo X Y j) (i + 1))) := upT_N (R := (caR St Mt Oo X Y)) (fun x => by simp only [caR, hb5, hb29] <;> simp [caR, hb5, hc8, hc9, hb29])
              exact ih (i + 1) ls H locs (by omega) (by rw [← e41]; exact lv_sub hl [0, 5] rfl) (by rw [← eo42, ← eo43, ← eo44]; exact hP) (by rw [← eo42, ← eo43, ← eo44]; exact hD) hS
        · -- 61 not taken
          have hc8 : X i = Y i := (nI_lit (Nat.lt_trans (hX12 _) (by decide)) (Nat.lt_trans (hY12 _) (by decide))).mp hc8
          refine lv_aload_n hx hb d_Se_readHelpers_64 rfl (lv_at hl 4 rfl) ?_
          refine va_get (D := D) (ci := 2) (v := .int (mI Mv)) (C := R_Se) (T := T_Se) (N := 17) hx hb hts hin_Se hown hK hP 0 rfl rfl 3 (by decide) (hts _ wd_106) (fun _ h9 => h9) rfl d_Se_readHelpers_65 ?_
          refine lv_iload_n hx hb d_Se_readHelpers_68 rfl (lv_at hl 2 rfl) ?_
          have hPc := hP.sub (ws' := []) [] rfl
          refine vp_callSi (va_Run.run (va_runSN (As := [.int (mI Mv), .int (nI (X i))]) (rest := []) ⟨hx, hb, hml, hown, hts⟩ (c_Sw_in l D cI cZ cJ cS aT ceT  Mv (X i) (hX12 _)) (⟨va_cnB 2 hts (tb_c wd_285) rfl rfl rfl hX.2.2.2.2.2.2.2.1 (hts _ wd_1) ⟨by decide, by decide, by decide +kernel⟩ ⟨Nat.le_of_ble_eq_true rfl, Nat.le_of_ble_eq_true rfl⟩, hts _ wd_284, trivial⟩) (tP_S hK hX (hS.2.1 aT hXl hXn) hPc) rfl rfl hl.1 rfl (lv_room (Nat.le_of_ble_eq_true rfl)) d_Se_readHelpers_69 ⟨Nat.le_of_ble_eq_true rfl, Nat.le_of_ble_eq_true rfl⟩)) (fun r45 hr9 => ?_)
          rw [hr9]
          rcases bI_c (Mv (X i)) with ⟨hb47, e9⟩ | ⟨hb47, e9⟩
          · refine tr_top e9 ?_
            refine lv_if_ne (tgt := 79) hx hb d_Se_readHelpers_72 (by decide) (fun _ => ?_) (fun h0 => absurd h0 (by decide))
            refine lv_iconst (v := 0) hx hb d_Se_readHelpers_79 (by decide) ?_
            refine lv_istore (lv' := [(5, .int 0), (4, .int (bI ((Mt (Y i)) (X i)))), (3, .int (nI (Y i))), (2, .int (nI (X i))), (1, .int (nI i)), (0, .ref h0)]) hx hb d_Se_readHelpers_80 hl (by decide) rfl (fun ls hl => ?_)
            refine lv_aload_n hx hb d_Se_readHelpers_82 rfl (lv_at hl 5 rfl) ?_
            refine va_get (D := D) (ci := 2) (v := .ref qs) (C := R_Se) (T := T_Se) (N := 17) hx hb hts hin_Se hown hK hP 0 rfl rfl 1 (by decide) (hts _ wd_104) (fun _ h9 => h9) rfl d_Se_readHelpers_83 ?_
            refine va_get (D := D) (ci := 3) (v := .ref qo) (C := R_Sh) (T := T_Sh) (N := 7) hx hb hts hin_Sh hown hK hP 3 rfl rfl 2 (by decide) (hts _ wd_69) (fun _ h9 => h9) rfl d_Se_readHelpers_86 ?_
            refine lv_iload_n hx hb d_Se_readHelpers_89 rfl (lv_at hl 4 rfl) ?_
            refine tr_iald (v := nI (Oo i)) hx hb hK hP 4 0 rfl rfl i hlt12 (by decide) rfl d_Se_readHelpers_90 ?_
            refine lv_iconst (v := 2) hx hb d_Se_readHelpers_91 (by decide) ?_
            refine lv_icmp_ne (tgt := 131) hx hb d_Se_readHelpers_92 (by decide) (fun hc49 => ?_) (fun hc49 => ?_)
            · -- 92 taken
              have hc49 : ¬ Oo i = 2 := fun h9 => hc49 (congrArg nI h9)
              refine lv_aload_n hx hb d_Se_readHelpers_131 rfl (lv_at hl 5 rfl) ?_
              refine va_get (D := D) (ci := 2) (v := .ref qs) (C := R_Se) (T := T_Se) (N := 17) hx hb hts hin_Se hown hK hP 0 rfl rfl 1 (by decide) (hts _ wd_104) (fun _ h9 => h9) rfl d_Se_readHelpers_132 ?_
              refine va_get (D := D) (ci := 3) (v := .ref qo) (C := R_Sh) (T := T_Sh) (N := 7) hx hb hts hin_Sh hown hK hP 3 rfl rfl 2 (by decide) (hts _ wd_69) (fun _ h9 => h9) rfl d_Se_readHelpers_135 ?_
              refine lv_iload_n hx hb d_Se_readHelpers_138 rfl (lv_at hl 4 rfl) ?_
              refine tr_iald (v := nI (Oo i)) hx hb hK hP 4 0 rfl rfl i hlt12 (by decide) rfl d_Se_readHelpers_139 ?_
              refine lv_iconst (v := 3) hx hb d_Se_readHelpers_140 (by decide) ?_
              refine lv_icmp_ne (tgt := 162) hx hb d_Se_readHelpers_141 (by decide) (fun hc50 => ?_) (fun hc50 => ?_)
              · -- 141 taken
                have hc50 : ¬ Oo i = 3 := fun h9 => hc50 (congrArg nI h9)
                refine lv_iinc (lv' := [(1, .int ((nI i) + 1)), (5, .int 0), (4, .int (bI ((Mt (Y i)) (X i)))), (3, .int (nI (Y i))), (2, .int (nI (X i))), (0, .ref h0)]) hx hb d_Se_readHelpers_162 hl (k := 4) rfl rfl (by decide) rfl (fun ls hl => ?_)
                refine lv_goto (tgt := 2) hx hb d_Se_readHelpers_165 (by decide) ?_
                have e51 : (nI i) + 1 = nI (i + 1) := nI_1 i
                have eo52 : (mI (orU Mv (hsR St Mv Mt Oo X Y) i)) = (mI (orU Mv (hsR St Mv Mt Oo X Y) (i + 1))) := mI_orN (show (hsR St Mv Mt Oo X Y) i = false by simp only [hsR, hb5, hb47] <;> simp [hsR, hb5, hc8, hb47, hc49, hc50])
                have eo53 : (fun j => mI (upTo (bkR St Mv Mt Oo X Y j) i)) = (fun j => mI (upTo (bkR St Mv Mt Oo X Y j) (i + 1))) := upT_N (R := (bkR St Mv Mt Oo X Y)) (fun x => by simp only [bkR, hsR, hb5, hb47] <;> simp [bkR, hsR, hb5, hc8, hb47, hc49, hc50])
                have eo54 : (fun j => mI (upTo (caR St Mt Oo X Y j) i)) = (fun j => mI (upTo (caR St Mt Oo X Y j) (i + 1))) := upT_N (R := (caR St Mt Oo X Y)) (fun x => by simp only [caR, hb5, hb47] <;> simp [caR, hb5, hc8, hb47, hc49, hc50])
                exact ih (i + 1) ls H locs (by omega) (by rw [← e51]; exact lv_sub hl [0, 5] rfl) (by rw [← eo52, ← eo53, ← eo54]; exact hP) (by rw [← eo52, ← eo53, ← eo54]; exact hD) hS
              · -- 141 not taken
                have hc50 : Oo i = 3 := (nI_lit (Nat.lt_trans (hO4 _) (by decide)) (by decide)).mp hc50
                refine lv_iload hx hb d_Se_readHelpers_144 (lv_at hl 1 rfl) ?_
                rcases bI_c ((Mt (Y i)) (X i)) with ⟨hb56, e9⟩ | ⟨hb56, e9⟩
                · refine tr_top e9 ?_
                  refine lv_if_eq (tgt := 162) hx hb d_Se_readHelpers_146 (by decide) (fun h0 => absurd h0 (by decide)) (fun _ => ?_)
                  refine lv_aload_n hx hb d_Se_readHelpers_149 rfl (lv_at hl 5 rfl) ?_
                  refine va_get (D := D) (ci := 2) (v := .ref q3) (C := R_Se) (T := T_Se) (N := 17) hx hb hts hin_Se hown hK hP 0 rfl rfl 8 (by decide) (hts _ wd_111) (fun _ h9 => h9) rfl d_Se_readHelpers_150 ?_
                  refine lv_iload_n hx hb d_Se_readHelpers_153 rfl (lv_at hl 3 rfl) ?_
                  refine lv_dup2_11 hx hb d_Se_readHelpers_154 rfl rfl ?_
                  refine tr_iald (v := mI (upTo (caR St Mt Oo X Y (X i)) i)) hx hb hK hP 8 0 rfl rfl (X i) (hX12 _) (by decide) rfl d_Se_readHelpers_155 ?_
                  refine lv_iload_n hx hb d_Se_readHelpers_156 rfl (lv_at hl 4 rfl) ?_
                  have hPc := hP.sub (ws' := []) [] rfl
                  refine vp_callSi (va_Run.run (va_runSN (As := [.int (nI i)]) (rest := [.int (mI (upTo (caR St Mt Oo X Y (X i)) i)), .int (nI (X i)), .ref q3]) ⟨hx, hb, hml, hown, hts⟩ (c_Sw_bitN l D cI cZ cJ cS aT ceT  i hlt12) (⟨va_cnB 1 hts (tb_c wd_411) rfl rfl rfl hX.2.2.2.2.2.2.2.2.1 (hts _ wd_1) ⟨by decide, by decide, by decide +kernel⟩ ⟨Nat.le_of_ble_eq_true rfl, Nat.le_of_ble_eq_true rfl⟩, hts _ wd_410, trivial⟩) (tP_S hK hX (hS.2.1 aT hXl hXn) hPc) rfl rfl hl.1 rfl (lv_room (Nat.le_of_ble_eq_true rfl)) d_Se_readHelpers_157 ⟨Nat.le_of_ble_eq_true rfl, Nat.le_of_ble_eq_true rfl⟩)) (fun r58 hr9 => ?_)
                  rw [hr9]
                  refine lv_ior hx hb d_Se_readHelpers_160 ?_
                  refine tr_top (y := mI (fun j => upTo (caR St Mt Oo X Y (X i)) i j || decide (j = i))) (mI_or _ _) ?_
                  refine tr_iast (g := fun j => mI (upS (fun j => upTo (caR St Mt Oo X Y j) i) (X i) (fun j => upTo (caR St Mt Oo X Y (X i)) i j || decide (j = i)) j)) hx hb hK hP hD hS 8 0 rfl rfl (X i) (hX12 _) (by decide) (upS_I (fun j => upTo (caR St Mt Oo X Y j) i) (X i) (fun j => upTo (caR St Mt Oo X Y (X i)) i j || decide (j = i))) d_Se_readHelpers_161 (fun H locs hP hD hS => ?_)
                  have hP : va_P D vwCl [(h0, .inr (2, [.ref qm, .ref qs, .int (mI St), .int (mI Mv), .int (mI Sm), .int (mI Ho), .ref q1, .ref q2, .ref q3, .ref q4, .int (mI Su), .int (mI (orU Mv (hsR St Mv Mt Oo X Y) i)), .int (mI Sd), .int (mI Od), .int (mI Sp), .int (mI Oq), .ref q5])), (qm, .inr (4, [.int (nI n), .int (mI S), .int (mI Ce), .ref qh, .ref qn])), (q1, .inl (cI, 12, .inl (fun j => mI (Mt j)))), (qs, .inr (3, [.int tn, .ref qu, .ref qo, .ref qx, .ref qy, .ref qr, .ref qw])), (qo, .inl (cI, 12, .inl (fun j => nI (Oo j)))), (qx, .inl (cI, 12, .inl (fun j => nI (X j)))), (qy, .inl (cI, 12, .inl (fun j => nI (Y j)))), (q2, .inl (cI, 12, .inl (fun j => mI (upTo (bkR St Mv Mt Oo X Y j) i)))), (q3, .inl (cI, 12, .inl (fun j => mI (upS (fun j => upTo (caR St Mt Oo X Y j) i) (X i) (fun j => upTo (caR St Mt Oo X Y (X i)) i j || decide (j = i)) j))))] H := hP
                  have hD : va_D A [(h0, .inr (2, [.ref qm, .ref qs, .int (mI St), .int (mI Mv), .int (mI Sm), .int (mI Ho), .ref q1, .ref q2, .ref q3, .ref q4, .int (mI Su), .int (mI (orU Mv (hsR St Mv Mt Oo X Y) i)), .int (mI Sd), .int (mI Od), .int (mI Sp), .int (mI Oq), .ref q5])), (qm, .inr (4, [.int (nI n), .int (mI S), .int (mI Ce), .ref qh, .ref qn])), (q1, .inl (cI, 12, .inl (fun j => mI (Mt j)))), (qs, .inr (3, [.int tn, .ref qu, .ref qo, .ref qx, .ref qy, .ref qr, .ref qw])), (qo, .inl (cI, 12, .inl (fun j => nI (Oo j)))), (qx, .inl (cI, 12, .inl (fun j => nI (X j)))), (qy, .inl (cI, 12, .inl (fun j => nI (Y j)))), (q2, .inl (cI, 12, .inl (fun j => mI (upTo (bkR St Mv Mt Oo X Y j) i)))), (q3, .inl (cI, 12, .inl (fun j => mI (upS (fun j => upTo (caR St Mt Oo X Y j) i) (X i) (fun j => upTo (caR St Mt Oo X Y (X i)) i j || decide (j = i)) j))))] := hD
                  refine lv_iinc (lv' := [(1, .int ((nI i) + 1)), (5, .int 0), (4, .int (bI ((Mt (Y i)) (X i)))), (3, .int (nI (Y i))), (2, .int (nI (X i))), (0, .ref h0)]) hx hb d_Se_readHelpers_162 hl (k := 4) rfl rfl (by decide) rfl (fun ls hl => ?_)
                  refine lv_goto (tgt := 2) hx hb d_Se_readHelpers_165 (by decide) ?_
                  have e59 : (nI i) + 1 = nI (i + 1) := nI_1 i
                  have eo60 : (mI (orU Mv (hsR St Mv Mt Oo X Y) i)) = (mI (orU Mv (hsR St Mv Mt Oo X Y) (i + 1))) := mI_orN (show (hsR St Mv Mt Oo X Y) i = false by simp only [hsR, hb5, hb47, hb56] <;> simp [hsR, hb5, hc8, hb47, hc49, hc50, hb56])
                  have eo61 : (fun j => mI (upTo (bkR St Mv Mt Oo X Y j) i)) = (fun j => mI (upTo (bkR St Mv Mt Oo X Y j) (i + 1))) := upT_N (R := (bkR St Mv Mt Oo X Y)) (fun x => by simp only [bkR, hsR, hb5, hb47, hb56] <;> simp [bkR, hsR, hb5, hc8, hb47, hc49, hc50, hb56])
                  have eo62 : (fun j => mI (upS (fun j => upTo (caR St Mt Oo X Y j) i) (X i) (fun j => upTo (caR St Mt Oo X Y (X i)) i j || decide (j = i)) j)) = (fun j => mI (upTo (caR St Mt Oo X Y j) (i + 1))) := upT_Y (R := (caR St Mt Oo X Y)) (by simp only [caR, hb5, hb47, hb56] <;> simp [caR, hb5, hc8, hb47, hc49, hc50, hb56]) (fun x hx9 => by simp only [caR, hb5, hb47, hb56, hx9] <;> simp [caR, hb5, hc8, hb47, hc49, hc50, hb56, hx9])
                  exact ih (i + 1) ls H locs (by omega) (by rw [← e59]; exact lv_sub hl [0, 5] rfl) (by rw [← eo60, ← eo61, ← eo62]; exact hP) (by rw [← eo60, ← eo61, ← eo62]; exact hD) hS
                · refine tr_top e9 ?_
                  refine lv_if_eq (tgt := 162) hx hb d_Se_readHelpers_146 (by decide) (fun _ => ?_) (fun h0 => absurd (by decide) h0)
                  refine lv_iinc (lv' := [(1, .int ((nI i) + 1)), (5, .int 0), (4, .int (bI ((Mt (Y i)) (X i)))), (3, .int (nI (Y i))), (2, .int (nI (X i))), (0, .ref h0)]) hx hb d_Se_readHelpers_162 hl (k := 4) rfl rfl (by decide) rfl (fun ls hl => ?_)
                  refine lv_goto (tgt := 2) hx hb d_Se_readHelpers_165 (by decide) ?_
                  have e64 : (nI i) + 1 = nI (i + 1) := nI_1 i
                  have eo65 : (mI (orU Mv (hsR St Mv Mt Oo X Y) i)) = (mI (orU Mv (hsR St Mv Mt Oo X Y) (i + 1))) := mI_orN (show (hsR St Mv Mt Oo X Y) i = false by simp only [hsR, hb5, hb47, hb56] <;> simp [hsR, hb5, hc8, hb47, hc49, hc50, hb56])
                  have eo66 : (fun j => mI (upTo (bkR St Mv Mt Oo X Y j) i)) = (fun j => mI (upTo (bkR St Mv Mt Oo X Y j) (i + 1))) := upT_N (R := (bkR St Mv Mt Oo X Y)) (fun x => by simp only [bkR, hsR, hb5, hb47, hb56] <;> simp [bkR, hsR, hb5, hc8, hb47, hc49, hc50, hb56])
                  have eo67 : (fun j => mI (upTo (caR St Mt Oo X Y j) i)) = (fun j => mI (upTo (caR St Mt Oo X Y j) (i + 1))) := upT_N (R := (caR St Mt Oo X Y)) (fun x => by simp only [caR, hb5, hb47, hb56] <;> simp [caR, hb5, hc8, hb47, hc49, hc50, hb56])
                  exact ih (i + 1) ls H locs (by omega) (by rw [← e64]; exact lv_sub hl [0, 5] rfl) (by rw [← eo65, ← eo66, ← eo67]; exact hP) (by rw [← eo65, ← eo66, ← eo67]; exact hD) hS
            · -- 92 not taken
              have hc49 : Oo i = 2 := (nI_lit (Nat.lt_trans (hO4 _) (by decide)) (by decide)).mp hc49
              refine lv_iload hx hb d_Se_readHelpers_95 (lv_at hl 1 rfl) ?_
              rcases bI_c ((Mt (Y i)) (X i)) with ⟨hb69, e9⟩ | ⟨hb69, e9⟩
              · refine tr_top e9 ?_
                refine lv_if_ne (tgt := 105) hx hb d_Se_readHelpers_97 (by decide) (fun _ => ?_) (fun h0 => absurd h0 (by decide))
                refine lv_aload_n hx hb d_Se_readHelpers_105 rfl (lv_at hl 5 rfl) ?_
                refine va_get (D := D) (ci := 2) (v := .ref q2) (C := R_Se) (T := T_Se) (N := 17) hx hb hts hin_Se hown hK hP 0 rfl rfl 7 (by decide) (hts _ wd_110) (fun _ h9 => h9) rfl d_Se_readHelpers_106 ?_
                refine lv_iload_n hx hb d_Se_readHelpers_109 rfl (lv_at hl 3 rfl) ?_
                refine lv_dup2_11 hx hb d_Se_readHelpers_110 rfl rfl ?_
                refine tr_iald (v := mI (upTo (bkR St Mv Mt Oo X Y (X i)) i)) hx hb hK hP 7 0 rfl rfl (X i) (hX12 _) (by decide) rfl d_Se_readHelpers_111 ?_
                refine lv_iload_n hx hb d_Se_readHelpers_112 rfl (lv_at hl 4 rfl) ?_
                have hPc := hP.sub (ws' := []) [] rfl
                refine vp_callSi (va_Run.run (va_runSN (As := [.int (nI i)]) (rest := [.int (mI (upTo (bkR St Mv Mt Oo X Y (X i)) i)), .int (nI (X i)), .ref q2]) ⟨hx, hb, hml, hown, hts⟩ (c_Sw_bitN l D cI cZ cJ cS aT ceT  i hlt12) (⟨va_cnB 1 hts (tb_c wd_411) rfl rfl rfl hX.2.2.2.2.2.2.2.2.1 (hts _ wd_1) ⟨by decide, by decide, by decide +kernel⟩ ⟨Nat.le_of_ble_eq_true rfl, Nat.le_of_ble_eq_true rfl⟩, hts _ wd_410, trivial⟩) (tP_S hK hX (hS.2.1 aT hXl hXn) hPc) rfl rfl hl.1 rfl (lv_room (Nat.le_of_ble_eq_true rfl)) d_Se_readHelpers_113 ⟨Nat.le_of_ble_eq_true rfl, Nat.le_of_ble_eq_true rfl⟩)) (fun r71 hr9 => ?_)
                rw [hr9]
                refine lv_ior hx hb d_Se_readHelpers_116 ?_
                refine tr_top (y := mI (fun j => upTo (bkR St Mv Mt Oo X Y (X i)) i j || decide (j = i))) (mI_or _ _) ?_
                refine tr_iast (g := fun j => mI (upS (fun j => upTo (bkR St Mv Mt Oo X Y j) i) (X i) (fun j => upTo (bkR St Mv Mt Oo X Y (X i)) i j || decide (j = i)) j)) hx hb hK hP hD hS 7 0 rfl rfl (X i) (hX12 _) (by decide) (upS_I (fun j => upTo (bkR St Mv Mt Oo X Y j) i) (X i) (fun j => upTo (bkR St Mv Mt Oo X Y (X i)) i j || decide (j = i))) d_Se_readHelpers_117 (fun H locs hP hD hS => ?_)
                have hP : va_P D vwCl [(h0, .inr (2, [.ref qm, .ref qs, .int (mI St), .int (mI Mv), .int (mI Sm), .int (mI Ho), .ref q1, .ref q2, .ref q3, .ref q4, .int (mI Su), .int (mI (orU Mv (hsR St Mv Mt Oo X Y) i)), .int (mI Sd), .int (mI Od), .int (mI Sp), .int (mI Oq), .ref q5])), (qm, .inr (4, [.int (nI n), .int (mI S), .int (mI Ce), .ref qh, .ref qn])), (q1, .inl (cI, 12, .inl (fun j => mI (Mt j)))), (qs, .inr (3, [.int tn, .ref qu, .ref qo, .ref qx, .ref qy, .ref qr, .ref qw])), (qo, .inl (cI, 12, .inl (fun j => nI (Oo j)))), (qx, .inl (cI, 12, .inl (fun j => nI (X j)))), (qy, .inl (cI, 12, .inl (fun j => nI (Y j)))), (q2, .inl (cI, 12, .inl (fun j => mI (upS (fun j => upTo (bkR St Mv Mt Oo X Y j) i) (X i) (fun j => upTo (bkR St Mv Mt Oo X Y (X i)) i j || decide (j = i)) j)))), (q3, .inl (cI, 12, .inl (fun j => mI (upTo (caR St Mt Oo X Y j) i))))] H := hP
                have hD : va_D A [(h0, .inr (2, [.ref qm, .ref qs, .int (mI St), .int (mI Mv), .int (mI Sm), .int (mI Ho), .ref q1, .ref q2, .ref q3, .ref q4, .int (mI Su), .int (mI (orU Mv (hsR St Mv Mt Oo X Y) i)), .int (mI Sd), .int (mI Od), .int (mI Sp), .int (mI Oq), .ref q5])), (qm, .inr (4, [.int (nI n), .int (mI S), .int (mI Ce), .ref qh, .ref qn])), (q1, .inl (cI, 12, .inl (fun j => mI (Mt j)))), (qs, .inr (3, [.int tn, .ref qu, .ref qo, .ref qx, .ref qy, .ref qr, .ref qw])), (qo, .inl (cI, 12, .inl (fun j => nI (Oo j)))), (qx, .inl (cI, 12, .inl (fun j => nI (X j)))), (qy, .inl (cI, 12, .inl (fun j => nI (Y j)))), (q2, .inl (cI, 12, .inl (fun j => mI (upS (fun j => upTo (bkR St Mv Mt Oo X Y j) i) (X i) (fun j => upTo (bkR St Mv Mt Oo X Y (X i)) i j || decide (j = i)) j)))), (q3, .inl (cI, 12, .inl (fun j => mI (upTo (caR St Mt Oo X Y j) i))))] := hD
                refine lv_aload_n hx hb d_Se_readHelpers_118 rfl (lv_at hl 5 rfl) ?_
                refine lv_dup hx hb d_Se_readHelpers_119 rfl ?_
                refine va_get (D := D) (ci := 2) (v := .int (mI (orU Mv (hsR St Mv Mt Oo X Y) i))) (C := R_Se) (T := T_Se) (N := 17) hx hb hts hin_Se hown hK hP 0 rfl rfl 11 (by decide) (hts _ wd_114) (fun _ h9 => h9) rfl d_Se_readHelpers_120 ?_
                refine lv_iload_n hx hb d_Se_readHelpers_123 rfl (lv_at hl 4 rfl) ?_
                have hPc := hP.sub (ws' := []) [] rfl
                refine vp_callSi (va_Run.run (va_runSN (As := [.int (nI i)]) (rest := [.int (mI (orU Mv (hsR St Mv Mt Oo X Y) i)), .ref h0]) ⟨hx, hb, hml, hown, hts⟩ (c_Sw_bitN l D cI cZ cJ cS aT ceT  i hlt12) (⟨va_cnB 1 hts (tb_c wd_411) rfl rfl rfl hX.2.2.2.2.2.2.2.2.1 (hts _ wd_1) ⟨by decide, by decide, by decide +kernel⟩ ⟨Nat.le_of_ble_eq_true rfl, Nat.le_of_ble_eq_true rfl⟩, hts _ wd_410, trivial⟩) (tP_S hK hX (hS.2.1 aT hXl hXn) hPc) rfl rfl hl.1 rfl (lv_room (Nat.le_of_ble_eq_true rfl)) d_Se_readHelpers_124 ⟨Nat.le_of_ble_eq_true rfl, Nat.le_of_ble_eq_true rfl⟩)) (fun r72 hr9 => ?_)
                rw [hr9]
                refine lv_ior hx hb d_Se_readHelpers_127 ?_
                refine tr_top (y := mI (fun j => orU Mv (hsR St Mv Mt Oo X Y) i j || decide (j = i))) (mI_or _ _) ?_
                refine va_put (D := D) (ci := 2) (v := .int (mI (fun j => orU Mv (hsR St Mv Mt Oo X Y) i j || decide (j = i)))) (ty := .int) (C := R_Se) (T := T_Se) (N := 17) hx hb hts hin_Se ty_Se tyok_Se nm_Se hown hK hP hD hS 0 rfl rfl 11 (by decide) (hts _ wd_114) (fun _ h9 => h9) rfl (by decide +kernel) rfl rfl (Nat.le_of_ble_eq_true rfl) d_Se_readHelpers_128 (fun H locs hP hD hS => ?_)
                have hP : va_P D vwCl [(h0, .inr (2, [.ref qm, .ref qs, .int (mI St), .int (mI Mv), .int (mI Sm), .int (mI Ho), .ref q1, .ref q2, .ref q3, .ref q4, .int (mI Su), .int (mI (fun j => orU Mv (hsR St Mv Mt Oo X Y) i j || decide (j = i))), .int (mI Sd), .int (mI Od), .int (mI Sp), .int (mI Oq), .ref q5])), (qm, .inr (4, [.int (nI n), .int (mI S), .int (mI Ce), .ref qh, .ref qn])), (q1, .inl (cI, 12, .inl (fun j => mI (Mt j)))), (qs, .inr (3, [.int tn, .ref qu, .ref qo, .ref qx, .ref qy, .ref qr, .ref qw])), (qo, .inl (cI, 12, .inl (fun j => nI (Oo j)))), (qx, .inl (cI, 12, .inl (fun j => nI (X j)))), (qy, .inl (cI, 12, .inl (fun j => nI (Y j)))), (q2, .inl (cI, 12, .inl (fun j => mI (upS (fun j => upTo (bkR St Mv Mt Oo X Y j) i) (X i) (fun j => upTo (bkR St Mv Mt Oo X Y (X i)) i j || decide (j = i)) j)))), (q3, .inl (cI, 12, .inl (fun j => mI (upTo (caR St Mt Oo X Y j) i))))] H := hP
                have hD : va_D A [(h0, .inr (2, [.ref qm, .ref qs, .int (mI St), .int (mI Mv), .int (mI Sm), .int (mI Ho), .ref q1, .ref q2, .ref q3, .ref q4, .int (mI Su), .int (mI (fun j => orU Mv (hsR St Mv Mt Oo X Y) i j || decide (j = i))), .int (mI Sd), .int (mI Od), .int (mI Sp), .int (mI Oq), .ref q5])), (qm, .inr (4, [.int (nI n), .int (mI S), .int (mI Ce), .ref qh, .ref qn])), (q1, .inl (cI, 12, .inl (fun j => mI (Mt j)))), (qs, .inr (3, [.int tn, .ref qu, .ref qo, .ref qx, .ref qy, .ref qr, .ref qw])), (qo, .inl (cI, 12, .inl (fun j => nI (Oo j)))), (qx, .inl (cI, 12, .inl (fun j => nI (X j)))), (qy, .inl (cI, 12, .inl (fun j => nI (Y j)))), (q2, .inl (cI, 12, .inl (fun j => mI (upS (fun j => upTo (bkR St Mv Mt Oo X Y j) i) (X i) (fun j => upTo (bkR St Mv Mt Oo X Y (X i)) i j || decide (j = i)) j)))), (q3, .inl (cI, 12, .inl (fun j => mI (upTo (caR St Mt Oo X Y j) i))))] := hD
                refine lv_aload_n hx hb d_Se_readHelpers_131 rfl (lv_at hl 5 rfl) ?_
                refine va_get (D := D) (ci := 2) (v := .ref qs) (C := R_Se) (T := T_Se) (N := 17) hx hb hts hin_Se hown hK hP 0 rfl rfl 1 (by decide) (hts _ wd_104) (fun _ h9 => h9) rfl d_Se_readHelpers_132 ?_
                refine va_get (D := D) (ci := 3) (v := .ref qo) (C := R_Sh) (T := T_Sh) (N := 7) hx hb hts hin_Sh hown hK hP 3 rfl rfl 2 (by decide) (hts _ wd_69) (fun _ h9 => h9) rfl d_Se_readHelpers_135 ?_
                refine lv_iload_n hx hb d_Se_readHelpers_138 rfl (lv_at hl 4 rfl) ?_
                refine tr_iald (v := nI (Oo i)) hx hb hK hP 4 0 rfl rfl i hlt12 (by decide) rfl d_Se_readHelpers_139 ?_
                refine lv_iconst (v := 3) hx hb d_Se_readHelpers_140 (by decide) ?_
                refine lv_icmp_ne (tgt := 162) hx hb d_Se_readHelpers_141 (by decide) (fun _ => ?_) (fun h0 => absurd ((nI_lit (Nat.lt_trans (hO4 _) (by decide)) (by decide)).mp h0) (fun h8 => absurd (hc49.symm.trans h8) (by decide)))
                refine lv_iinc (lv' := [(1, .int ((nI i) + 1)), (5, .int 0), (4, .int (bI ((Mt (Y i)) (X i)))), (3, .int (nI (Y i))), (2, .int (nI (X i))), (0, .ref h0)]) hx hb d_Se_readHelpers_162 hl (k := 4) rfl rfl (by decide) rfl (fun ls hl => ?_)
                refine lv_goto (tgt := 2) hx hb d_Se_readHelpers_165 (by decide) ?_
                have e74 : (nI i) + 1 = nI (i + 1) := nI_1 i
                have eo75 : (mI (fun j => orU Mv (hsR St Mv Mt Oo X Y) i j || decide (j = i))) = (mI (orU Mv (hsR St Mv Mt Oo X Y) (i + 1))) := mI_orY (show (hsR St Mv Mt Oo X Y) i = true by simp only [hsR, hb5, hb47, hb69] <;> simp [hsR, hb5, hc8, hb47, hc49, hb69])
                have eo76 : (fun j => mI (upS (fun j => upTo (bkR St Mv Mt Oo X Y j) i) (X i) (fun j => upTo (bkR St Mv Mt Oo X Y (X i)) i j || decide (j = i)) j)) = (fun j => mI (upTo (bkR St Mv Mt Oo X Y j) (i + 1))) := upT_Y (R := (bkR St Mv Mt Oo X Y)) (by simp only [bkR, hsR, hb5, hb47, hb69] <;> simp [bkR, hsR, hb5, hc8, hb47, hc49, hb69]) (fun x hx9 => by simp only [bkR, hsR, hb5, hb47, hb69, hx9] <;> simp [bkR, hsR, hb5, hc8, hb47, hc49, hb69, hx9])
                have eo77 : (fun j => mI (upTo (caR St Mt Oo X Y j) i)) = (fun j => mI (upTo (caR St Mt Oo X Y j) (i + 1))) := upT_N (R := (caR St Mt Oo X Y)) (fun x => by simp only [caR, hb5, hb47, hb69] <;> simp [caR, hb5, hc8, hb47, hc49, hb69])
                exact ih (i + 1) ls H locs (by omega) (by rw [← e74]; exact lv_sub hl [0, 5] rfl) (by rw [← eo75, ← eo76, ← eo77]; exact hP) (by rw [← eo75, ← eo76, ← eo77]; exact hD) hS
              · refine tr_top e9 ?_
                refine lv_if_ne (tgt := 105) hx hb d_Se_readHelpers_97 (by decide) (fun h0 => absurd (by decide) h0) (fun _ => ?_)
                refine lv_iload hx hb d_Se_readHelpers_100 (lv_at hl 0 rfl) ?_
                refine lv_if_eq (tgt := 131) hx hb d_Se_readHelpers_102 (by decide) (fun _ => ?_) (fun h0 => absurd (by decide) h0)
                refine lv_aload_n hx hb d_Se_readHelpers_131 rfl (lv_at hl 5 rfl) ?_
                refine va_get (D := D) (ci := 2) (v := .ref qs) (C := R_Se) (T := T_Se) (N := 17) hx hb hts hin_Se hown hK hP 0 rfl rfl 1 (by decide) (hts _ wd_104) (fun _ h9 => h9) rfl d_Se_readHelpers_132 ?_
                refine va_get (D := D) (ci := 3) (v := .ref qo) (C := R_Sh) (T := T_Sh) (N := 7) hx hb hts hin_Sh hown hK hP 3 rfl rfl 2 (by decide) (hts _ wd_69) (fun _ h9 => h9) rfl d_Se_readHelpers_135 ?_
                refine lv_iload_n hx hb d_Se_readHelpers_138 rfl (lv_at hl 4 rfl) ?_
                refine tr_iald (v := nI (Oo i)) hx hb hK hP 4 0 rfl rfl i hlt12 (by decide) rfl d_Se_readHelpers_139 ?_
                refine lv_iconst (v := 3) hx hb d_Se_readHelpers_140 (by decide) ?_
                refine lv_icmp_ne (tgt := 162) hx hb d_Se_readHelpers_141 (by decide) (fun _ => ?_) (fun h0 => absurd ((nI_lit (Nat.lt_trans (hO4 _) (by decide)) (by decide)).mp h0) (fun h8 => absurd (hc49.symm.trans h8) (by decide)))
                refine lv_iinc (lv' := [(1, .int ((nI i) + 1)), (5, .int 0), (4, .int (bI ((Mt (Y i)) (X i)))), (3, .int (nI (Y i))), (2, .int (nI (X i))), (0, .ref h0)]) hx hb d_Se_readHelpers_162 hl (k := 4) rfl rfl (by decide) rfl (fun ls hl => ?_)
                refine lv_goto (tgt := 2) hx hb d_Se_readHelpers_165 (by decide) ?_
                have e81 : (nI i) + 1 = nI (i + 1) := nI_1 i
                have eo82 : (mI (orU Mv (hsR St Mv Mt Oo X Y) i)) = (mI (orU Mv (hsR St Mv Mt Oo X Y) (i + 1))) := mI_orN (show (hsR St Mv Mt Oo X Y) i = false by simp only [hsR, hb5, hb47, hb69] <;> simp [hsR, hb5, hc8, hb47, hc49, hb69])
                have eo83 : (fun j => mI (upTo (bkR St Mv Mt Oo X Y j) i)) = (fun j => mI (upTo (bkR St Mv Mt Oo X Y j) (i + 1))) := upT_N (R := (bkR St Mv Mt Oo X Y)) (fun x => by simp only [bkR, hsR, hb5, hb47, hb69] <;> simp [bkR, hsR, hb5, hc8, hb47, hc49, hb69])
                have eo84 : (fun j => mI (upTo (caR St Mt Oo X Y j) i)) = (fun j => mI (upTo (caR St Mt Oo X Y j) (i + 1))) := upT_N (R := (caR St Mt Oo X Y)) (fun x => by simp only [caR, hb5, hb47, hb69] <;> simp [caR, hb5, hc8, hb47, hc49, hb69])
                exact ih (i + 1) ls H locs (by omega) (by rw [← e81]; exact lv_sub hl [0, 5] rfl) (by rw [← eo82, ← eo83, ← eo84]; exact hP) (by rw [← eo82, ← eo83, ← eo84]; exact hD) hS
          · refine tr_top e9 ?_
            refine lv_if_ne (tgt := 79) hx hb d_Se_readHelpers_72 (by decide) (fun h0 => absurd (by decide) h0) (fun _ => ?_)
            refine lv_iconst (v := 1) hx hb d_Se_readHelpers_75 (by decide) ?_
            refine lv_goto (tgt := 80) hx hb d_Se_readHelpers_76 (by decide) ?_
            refine lv_istore (lv' := [(5, .int 1), (4, .int (bI ((Mt (Y i)) (X i)))), (3, .int (nI (Y i))), (2, .int (nI (X i))), (1, .int (nI i)), (0, .ref h0)]) hx hb d_Se_readHelpers_80 hl (by decide) rfl (fun ls hl => ?_)
            refine lv_aload_n hx hb d_Se_readHelpers_82 rfl (lv_at hl 5 rfl) ?_
            refine va_get (D := D) (ci := 2) (v := .ref qs) (C := R_Se) (T := T_Se) (N := 17) hx hb hts hin_Se hown hK hP 0 rfl rfl 1 (by decide) (hts _ wd_104) (fun _ h9 => h9) rfl d_Se_readHelpers_83 ?_
            refine va_get (D := D) (ci := 3) (v := .ref qo) (C := R_Sh) (T := T_Sh) (N := 7) hx hb hts hin_Sh hown hK hP 3 rfl rfl 2 (by decide) (hts _ wd_69) (fun _ h9 => h9) rfl d_Se_readHelpers_86 ?_
            refine lv_iload_n hx hb d_Se_readHelpers_89 rfl (lv_at hl 4 rfl) ?_
            refine tr_iald (v := nI (Oo i)) hx hb hK hP 4 0 rfl rfl i hlt12 (by decide) rfl d_Se_readHelpers_90 ?_
            refine lv_iconst (v := 2) hx hb d_Se_readHelpers_91 (by decide) ?_
            refine lv_icmp_ne (tgt := 131) hx hb d_Se_readHelpers_92 (by decide) (fun hc86 => ?_) (fun hc86 => ?_)
            · -- 92 taken
              have hc86 : ¬ Oo i = 2 := fun h9 => hc86 (congrArg nI h9)
              refine lv_aload_n hx hb d_Se_readHelpers_131 rfl (lv_at hl 5 rfl) ?_
              refine va_get (D := D) (ci := 2) (v := .ref qs) (C := R_Se) (T := T_Se) (N := 17) hx hb hts hin_Se hown hK hP 0 rfl rfl 1 (by decide) (hts _ wd_104) (fun _ h9 => h9) rfl d_Se_readHelpers_132 ?_
              refine va_get (D := D) (ci := 3) (v := .ref qo) (C := R_Sh) (T := T_Sh) (N := 7) hx hb hts hin_Sh hown hK hP 3 rfl rfl 2 (by decide) (hts _ wd_69) (fun _ h9 => h9) rfl d_Se_readHelpers_135 ?_
              refine lv_iload_n hx hb d_Se_readHelpers_138 rfl (lv_at hl 4 rfl) ?_
              refine tr_iald (v := nI (Oo i)) hx hb hK hP 4 0 rfl rfl i hlt12 (by decide) rfl d_Se_readHelpers_139 ?_
              refine lv_iconst (v := 3) hx hb d_Se_readHelpers_140 (by decide) ?_
              refine lv_icmp_ne (tgt := 162) hx hb d_Se_readHelpers_141 (by decide) (fun hc87 => ?_) (fun hc87 => ?_)
              · -- 141 taken
                have hc87 : ¬ Oo i = 3 := fun h9 => hc87 (congrArg nI h9)
                refine lv_iinc (lv' := [(1, .int ((nI i) + 1)), (5, .int 1), (4, .int (bI ((Mt (Y i)) (X i)))), (3, .int (nI (Y i))), (2, .int (nI (X i))), (0, .ref h0)]) hx hb d_Se_readHelpers_162 hl (k := 4) rfl rfl (by decide) rfl (fun ls hl => ?_)
                refine lv_goto (tgt := 2) hx hb d_Se_readHelpers_165 (by decide) ?_
                have e88 : (nI i) + 1 = nI (i + 1) := nI_1 i
                have eo89 : (mI (orU Mv (hsR St Mv Mt Oo X Y) i)) = (mI (orU Mv (hsR St Mv Mt Oo X Y) (i + 1))) := mI_orN (show (hsR St Mv Mt Oo X Y) i = false by simp only [hsR, hb5, hb47] <;> simp [hsR, hb5, hc8, hb47, hc86, hc87])
                have eo90 : (fun j => mI (upTo (bkR St Mv Mt Oo X Y j) i)) = (fun j => mI (upTo (bkR St Mv Mt Oo X Y j) (i + 1))) := upT_N (R := (bkR St Mv Mt Oo X Y)) (fun x => by simp only [bkR, hsR, hb5, hb47] <;> simp [bkR, hsR, hb5, hc8, hb47, hc86, hc87])
                have eo91 : (fun j => mI (upTo (caR St Mt Oo X Y j) i)) = (fun j => mI (upTo (caR St Mt Oo X Y j) (i + 1))) := upT_N (R := (caR St Mt Oo X Y)) (fun x => by simp only [caR, hb5, hb47] <;> simp [caR, hb5, hc8, hb47, hc86, hc87])
                exact ih (i + 1) ls H locs (by omega) (by rw [← e88]; exact lv_sub hl [0, 5] rfl) (by rw [← eo89, ← eo90, ← eo91]; exact hP) (by rw [← eo89, ← eo90, ← eo91]; exact hD) hS
              · -- 141 not taken
                have hc87 : Oo i = 3 := (nI_lit (Nat.lt_trans (hO4 _) (by decide)) (by decide)).mp hc87
                refine lv_iload hx hb d_Se_readHelpers_144 (lv_at hl 1 rfl) ?_
                rcases bI_c ((Mt (Y i)) (X i)) with ⟨hb93, e9⟩ | ⟨hb93, e9⟩
                · refine tr_top e9 ?_
                  refine lv_if_eq (tgt := 162) hx hb d_Se_readHelpers_146 (by decide) (fun h0 => absurd h0 (by decide)) (fun _ => ?_)
                  refine lv_aload_n hx hb d_Se_readHelpers_149 rfl (lv_at hl 5 rfl) ?_
                  refine va_get (D := D) (ci := 2) (v := .ref q3) (C := R_Se) (T := T_Se) (N := 17) hx hb hts hin_Se hown hK hP 0 rfl rfl 8 (by decide) (hts _ wd_111) (fun _ h9 => h9) rfl d_Se_readHelpers_150 ?_
                  refine lv_iload_n hx hb d_Se_readHelpers_153 rfl (lv_at hl 3 rfl) ?_
                  refine lv_dup2_11 hx hb d_Se_readHelpers_154 rfl rfl ?_
                  refine tr_iald (v := mI (upTo (caR St Mt Oo X Y (X i)) i)) hx hb hK hP 8 0 rfl rfl (X i) (hX12 _) (by decide) rfl d_Se_readHelpers_155 ?_
                  refine lv_iload_n hx hb d_Se_readHelpers_156 rfl (lv_at hl 4 rfl) ?_
                  have hPc := hP.sub (ws' := []) [] rfl
                  refine vp_callSi (va_Run.run (va_runSN (As := [.int (nI i)]) (rest := [.int (mI (upTo (caR St Mt Oo X Y (X i)) i)), .int (nI (X i)), .ref q3]) ⟨hx, hb, hml, hown, hts⟩ (c_Sw_bitN l D cI cZ cJ cS aT ceT  i hlt12) (⟨va_cnB 1 hts (tb_c wd_411) rfl rfl rfl hX.2.2.2.2.2.2.2.2.1 (hts _ wd_1) ⟨by decide, by decide, by decide +kernel⟩ ⟨Nat.le_of_ble_eq_true rfl, Nat.le_of_ble_eq_true rfl⟩, hts _ wd_410, trivial⟩) (tP_S hK hX (hS.2.1 aT hXl hXn) hPc) rfl rfl hl.1 rfl (lv_room (Nat.le_of_ble_eq_true rfl)) d_Se_readHelpers_157 ⟨Nat.le_of_ble_eq_true rfl, Nat.le_of_ble_eq_true rfl⟩)) (fun r95 hr9 => ?_)
                  rw [hr9]
                  refine lv_ior hx hb d_Se_readHelpers_160 ?_
                  refine tr_top (y := mI (fun j => upTo (caR St Mt Oo X Y (X i)) i j || decide (j = i))) (mI_or _ _) ?_
                  refine tr_iast (g := fun j => mI (upS (fun j => upTo (caR St Mt Oo X Y j) i) (X i) (fun j => upTo (caR St Mt Oo X Y (X i)) i j || decide (j = i)) j)) hx hb hK hP hD hS 8 0 rfl rfl (X i) (hX12 _) (by decide) (upS_I (fun j => upTo (caR St Mt Oo X Y j) i) (X i) (fun j => upTo (caR St Mt Oo X Y (X i)) i j || decide (j = i))) d_Se_readHelpers_161 (fun H locs hP hD hS => ?_)
                  have hP : va_P D vwCl [(h0, .inr (2, [.ref qm, .ref qs, .int (mI St), .int (mI Mv), .int (mI Sm), .int (mI Ho), .ref q1, .ref q2, .ref q3, .ref q4, .int (mI Su), .int (mI (orU Mv (hsR St Mv Mt Oo X Y) i)), .int (mI Sd), .int (mI Od), .int (mI Sp), .int (mI Oq), .ref q5])), (qm, .inr (4, [.int (nI n), .int (mI S), .int (mI Ce), .ref qh, .ref qn])), (q1, .inl (cI, 12, .inl (fun j => mI (Mt j)))), (qs, .inr (3, [.int tn, .ref qu, .ref qo, .ref qx, .ref qy, .ref qr, .ref qw])), (qo, .inl (cI, 12, .inl (fun j => nI (Oo j)))), (qx, .inl (cI, 12, .inl (fun j => nI (X j)))), (qy, .inl (cI, 12, .inl (fun j => nI (Y j)))), (q2, .inl (cI, 12, .inl (fun j => mI (upTo (bkR St Mv Mt Oo X Y j) i)))), (q3, .inl (cI, 12, .inl (fun j => mI (upS (fun j => upTo (caR St Mt Oo X Y j) i) (X i) (fun j => upTo (caR St Mt Oo X Y (X i)) i j || decide (j = i)) j))))] H := hP
                  have hD : va_D A [(h0, .inr (2, [.ref qm, .ref qs, .int (mI St), .int (mI Mv), .int (mI Sm), .int (mI Ho), .ref q1, .ref q2, .ref q3, .ref q4, .int (mI Su), .int (mI (orU Mv (hsR St Mv Mt Oo X Y) i)), .int (mI Sd), .int (mI Od), .int (mI Sp), .int (mI Oq), .ref q5])), (qm, .inr (4, [.int (nI n), .int (mI S), .int (mI Ce), .ref qh, .ref qn])), (q1, .inl (cI, 12, .inl (fun j => mI (Mt j)))), (qs, .inr (3, [.int tn, .ref qu, .ref qo, .ref qx, .ref qy, .ref qr, .ref qw])), (qo, .inl (cI, 12, .inl (fun j => nI (Oo j)))), (qx, .inl (cI, 12, .inl (fun j => nI (X j)))), (qy, .inl (cI, 12, .inl (fun j => nI (Y j)))), (q2, .inl (cI, 12, .inl (fun j => mI (upTo (bkR St Mv Mt Oo X Y j) i)))), (q3, .inl (cI, 12, .inl (fun j => mI (upS (fun j => upTo (caR St Mt Oo X Y j) i) (X i) (fun j => upTo (caR St Mt Oo X Y (X i)) i j || decide (j = i)) j))))] := hD
                  refine lv_iinc (lv' := [(1, .int ((nI i) + 1)), (5, .int 1), (4, .int (bI ((Mt (Y i)) (X i)))), (3, .int (nI (Y i))), (2, .int (nI (X i))), (0, .ref h0)]) hx hb d_Se_readHelpers_162 hl (k := 4) rfl rfl (by decide) rfl (fun ls hl => ?_)
                  refine lv_goto (tgt := 2) hx hb d_Se_readHelpers_165 (by decide) ?_
                  have e96 : (nI i) + 1 = nI (i + 1) := nI_1 i
                  have eo97 : (mI (orU Mv (hsR St Mv Mt Oo X Y) i)) = (mI (orU Mv (hsR St Mv Mt Oo X Y) (i + 1))) := mI_orN (show (hsR St Mv Mt Oo X Y) i = false by simp only [hsR, hb5, hb47, hb93] <;> simp [hsR, hb5, hc8, hb47, hc86, hc87, hb93])
                  have eo98 : (fun j => mI (upTo (bkR St Mv Mt Oo X Y j) i)) = (fun j => mI (upTo (bkR St Mv Mt Oo X Y j) (i + 1))) := upT_N (R := (bkR St Mv Mt Oo X Y)) (fun x => by simp only [bkR, hsR, hb5, hb47, hb93] <;> simp [bkR, hsR, hb5, hc8, hb47, hc86, hc87, hb93])
                  have eo99 : (fun j => mI (upS (fun j => upTo (caR St Mt Oo X Y j) i) (X i) (fun j => upTo (caR St Mt Oo X Y (X i)) i j || decide (j = i)) j)) = (fun j => mI (upTo (caR St Mt Oo X Y j) (i + 1))) := upT_Y (R := (caR St Mt Oo X Y)) (by simp only [caR, hb5, hb47, hb93] <;> simp [caR, hb5, hc8, hb47, hc86, hc87, hb93]) (fun x hx9 => by simp only [caR, hb5, hb47, hb93, hx9] <;> simp [caR, hb5, hc8, hb47, hc86, hc87, hb93, hx9])
                  exact ih (i + 1) ls H locs (by omega) (by rw [← e96]; exact lv_sub hl [0, 5] rfl) (by rw [← eo97, ← eo98, ← eo99]; exact hP) (by rw [← eo97, ← eo98, ← eo99]; exact hD) hS
                · refine tr_top e9 ?_
                  refine lv_if_eq (tgt := 162) hx hb d_Se_readHelpers_146 (by decide) (fun _ => ?_) (fun h0 => absurd (by decide) h0)
                  refine lv_iinc (lv' := [(1, .int ((nI i) + 1)), (5, .int 1), (4, .int (bI ((Mt (Y i)) (X i)))), (3, .int (nI (Y i))), (2, .int (nI (X i))), (0, .ref h0)]) hx hb d_Se_readHelpers_162 hl (k := 4) rfl rfl (by decide) rfl (fun ls hl => ?_)
                  refine lv_goto (tgt := 2) hx hb d_Se_readHelpers_165 (by decide) ?_
                  have e101 : (nI i) + 1 = nI (i + 1) := nI_1 i
                  have eo102 : (mI (orU Mv (hsR St Mv Mt Oo X Y) i)) = (mI (orU Mv (hsR St Mv Mt Oo X Y) (i + 1))) := mI_orN (show (hsR St Mv Mt Oo X Y) i = false by simp only [hsR, hb5, hb47, hb93] <;> simp [hsR, hb5, hc8, hb47, hc86, hc87, hb93])
                  have eo103 : (fun j => mI (upTo (bkR St Mv Mt Oo X Y j) i)) = (fun j => mI (upTo (bkR St Mv Mt Oo X Y j) (i + 1))) := upT_N (R := (bkR St Mv Mt Oo X Y)) (fun x => by simp only [bkR, hsR, hb5, hb47, hb93] <;> simp [bkR, hsR, hb5, hc8, hb47, hc86, hc87, hb93])
                  have eo104 : (fun j => mI (upTo (caR St Mt Oo X Y j) i)) = (fun j => mI (upTo (caR St Mt Oo X Y j) (i + 1))) := upT_N (R := (caR St Mt Oo X Y)) (fun x => by simp only [caR, hb5, hb47, hb93] <;> simp [caR, hb5, hc8, hb47, hc86, hc87, hb93])
                  exact ih (i + 1) ls H locs (by omega) (by rw [← e101]; exact lv_sub hl [0, 5] rfl) (by rw [← eo102, ← eo103, ← eo104]; exact hP) (by rw [← eo102, ← eo103, ← eo104]; exact hD) hS
            · -- 92 not taken
              have hc86 : Oo i = 2 := (nI_lit (Nat.lt_trans (hO4 _) (by decide)) (by decide)).mp hc86
              refine lv_iload hx hb d_Se_readHelpers_95 (lv_at hl 1 rfl) ?_
              rcases bI_c ((Mt (Y i)) (X i)) with ⟨hb106, e9⟩ | ⟨hb106, e9⟩
              · refine tr_top e9 ?_
                refine lv_if_ne (tgt := 105) hx hb d_Se_readHelpers_97 (by decide) (fun _ => ?_) (fun h0 => absurd h0 (by decide))
                refine lv_aload_n hx hb d_Se_readHelpers_105 rfl (lv_at hl 5 rfl) ?_
                refine va_get (D := D) (ci := 2) (v := .ref q2) (C := R_Se) (T := T_Se) (N := 17) hx hb hts hin_Se hown hK hP 0 rfl rfl 7 (by decide) (hts _ wd_110) (fun _ h9 => h9) rfl d_Se_readHelpers_106 ?_
                refine lv_iload_n hx hb d_Se_readHelpers_109 rfl (lv_at hl 3 rfl) ?_
                refine lv_dup2_11 hx hb d_Se_readHelpers_110 rfl rfl ?_
                refine tr_iald (v := mI (upTo (bkR St Mv Mt Oo X Y (X i)) i)) hx hb hK hP 7 0 rfl rfl (X i) (hX12 _) (by decide) rfl d_Se_readHelpers_111 ?_
                refine lv_iload_n hx hb d_Se_readHelpers_112 rfl (lv_at hl 4 rfl) ?_
                have hPc := hP.sub (ws' := []) [] rfl
                refine vp_callSi (va_Run.run (va_runSN (As := [.int (nI i)]) (rest := [.int (mI (upTo (bkR St Mv Mt Oo X Y (X i)) i)), .int (nI (X i)), .ref q2]) ⟨hx, hb, hml, hown, hts⟩ (c_Sw_bitN l D cI cZ cJ cS aT ceT  i hlt12) (⟨va_cnB 1 hts (tb_c wd_411) rfl rfl rfl hX.2.2.2.2.2.2.2.2.1 (hts _ wd_1) ⟨by decide, by decide, by decide +kernel⟩ ⟨Nat.le_of_ble_eq_true rfl, Nat.le_of_ble_eq_true rfl⟩, hts _ wd_410, trivial⟩) (tP_S hK hX (hS.2.1 aT hXl hXn) hPc) rfl rfl hl.1 rfl (lv_room (Nat.le_of_ble_eq_true rfl)) d_Se_readHelpers_113 ⟨Nat.le_of_ble_eq_true rfl, Nat.le_of_ble_eq_true rfl⟩)) (fun r108 hr9 => ?_)
                rw [hr9]
                refine lv_ior hx hb d_Se_readHelpers_116 ?_
                refine tr_top (y := mI (fun j => upTo (bkR St Mv Mt Oo X Y (X i)) i j || decide (j = i))) (mI_or _ _) ?_
                refine tr_iast (g := fun j => mI (upS (fun j => upTo (bkR St Mv Mt Oo X Y j) i) (X i) (fun j => upTo (bkR St Mv Mt Oo X Y (X i)) i j || decide (j = i)) j)) hx hb hK hP hD hS 7 0 rfl rfl (X i) (hX12 _) (by decide) (upS_I (fun j => upTo (bkR St Mv Mt Oo X Y j) i) (X i) (fun j => upTo (bkR St Mv Mt Oo X Y (X i)) i j || decide (j = i))) d_Se_readHelpers_117 (fun H locs hP hD hS => ?_)
                have hP : va_P D vwCl [(h0, .inr (2, [.ref qm, .ref qs, .int (mI St), .int (mI Mv), .int (mI Sm), .int (mI Ho), .ref q1, .ref q2, .ref q3, .ref q4, .int (mI Su), .int (mI (orU Mv (hsR St Mv Mt Oo X Y) i)), .int (mI Sd), .int (mI Od), .int (mI Sp), .int (mI Oq), .ref q5])), (qm, .inr (4, [.int (nI n), .int (mI S), .int (mI Ce), .ref qh, .ref qn])), (q1, .inl (cI, 12, .inl (fun j => mI (Mt j)))), (qs, .inr (3, [.int tn, .ref qu, .ref qo, .ref qx, .ref qy, .ref qr, .ref qw])), (qo, .inl (cI, 12, .inl (fun j => nI (Oo j)))), (qx, .inl (cI, 12, .inl (fun j => nI (X j)))), (qy, .inl (cI, 12, .inl (fun j => nI (Y j)))), (q2, .inl (cI, 12, .inl (fun j => mI (upS (fun j => upTo (bkR St Mv Mt Oo X Y j) i) (X i) (fun j => upTo (bkR St Mv Mt Oo X Y (X i)) i j || decide (j = i)) j)))), (q3, .inl (cI, 12, .inl (fun j => mI (upTo (caR St Mt Oo X Y j) i))))] H := hP
                have hD : va_D A [(h0, .inr (2, [.ref qm, .ref qs, .int (mI St), .int (mI Mv), .int (mI Sm), .int (mI Ho), .ref q1, .ref q2, .ref q3, .ref q4, .int (mI Su), .int (mI (orU Mv (hsR St Mv Mt Oo X Y) i)), .int (mI Sd), .int (mI Od), .int (mI Sp), .int (mI Oq), .ref q5])), (qm, .inr (4, [.int (nI n), .int (mI S), .int (mI Ce), .ref qh, .ref qn])), (q1, .inl (cI, 12, .inl (fun j => mI (Mt j)))), (qs, .inr (3, [.int tn, .ref qu, .ref qo, .ref qx, .ref qy, .ref qr, .ref qw])), (qo, .inl (cI, 12, .inl (fun j => nI (Oo j)))), (qx, .inl (cI, 12, .inl (fun j => nI (X j)))), (qy, .inl (cI, 12, .inl (fun j => nI (Y j)))), (q2, .inl (cI, 12, .inl (fun j => mI (upS (fun j => upTo (bkR St Mv Mt Oo X Y j) i) (X i) (fun j => upTo (bkR St Mv Mt Oo X Y (X i)) i j || decide (j = i)) j)))), (q3, .inl (cI, 12, .inl (fun j => mI (upTo (caR St Mt Oo X Y j) i))))] := hD
                refine lv_aload_n hx hb d_Se_readHelpers_118 rfl (lv_at hl 5 rfl) ?_
                refine lv_dup hx hb d_Se_readHelpers_119 rfl ?_
                refine va_get (D := D) (ci := 2) (v := .int (mI (orU Mv (hsR St Mv Mt Oo X Y) i))) (C := R_Se) (T := T_Se) (N := 17) hx hb hts hin_Se hown hK hP 0 rfl rfl 11 (by decide) (hts _ wd_114) (fun _ h9 => h9) rfl d_Se_readHelpers_120 ?_
                refine lv_iload_n hx hb d_Se_readHelpers_123 rfl (lv_at hl 4 rfl) ?_
                have hPc := hP.sub (ws' := []) [] rfl
                refine vp_callSi (va_Run.run (va_runSN (As := [.int (nI i)]) (rest := [.int (mI (orU Mv (hsR St Mv Mt Oo X Y) i)), .ref h0]) ⟨hx, hb, hml, hown, hts⟩ (c_Sw_bitN l D cI cZ cJ cS aT ceT  i hlt12) (⟨va_cnB 1 hts (tb_c wd_411) rfl rfl rfl hX.2.2.2.2.2.2.2.2.1 (hts _ wd_1) ⟨by decide, by decide, by decide +kernel⟩ ⟨Nat.le_of_ble_eq_true rfl, Nat.le_of_ble_eq_true rfl⟩, hts _ wd_410, trivial⟩) (tP_S hK hX (hS.2.1 aT hXl hXn) hPc) rfl rfl hl.1 rfl (lv_room (Nat.le_of_ble_eq_true rfl)) d_Se_readHelpers_124 ⟨Nat.le_of_ble_eq_true rfl, Nat.le_of_ble_eq_true rfl⟩)) (fun r109 hr9 => ?_)
                rw [hr9]
                refine lv_ior hx hb d_Se_readHelpers_127 ?_
                refine tr_top (y := mI (fun j => orU Mv (hsR St Mv Mt Oo X Y) i j || decide (j = i))) (mI_or _ _) ?_
                refine va_put (D := D) (ci := 2) (v := .int (mI (fun j => orU Mv (hsR St Mv Mt Oo X Y) i j || decide (j = i)))) (ty := .int) (C := R_Se) (T := T_Se) (N := 17) hx hb hts hin_Se ty_Se tyok_Se nm_Se hown hK hP hD hS 0 rfl rfl 11 (by decide) (hts _ wd_114) (fun _ h9 => h9) rfl (by decide +kernel) rfl rfl (Nat.le_of_ble_eq_true rfl) d_Se_readHelpers_128 (fun H locs hP hD hS => ?_)
                have hP : va_P D vwCl [(h0, .inr (2, [.ref qm, .ref qs, .int (mI St), .int (mI Mv), .int (mI Sm), .int (mI Ho), .ref q1, .ref q2, .ref q3, .ref q4, .int (mI Su), .int (mI (fun j => orU Mv (hsR St Mv Mt Oo X Y) i j || decide (j = i))), .int (mI Sd), .int (mI Od), .int (mI Sp), .int (mI Oq), .ref q5])), (qm, .inr (4, [.int (nI n), .int (mI S), .int (mI Ce), .ref qh, .ref qn])), (q1, .inl (cI, 12, .inl (fun j => mI (Mt j)))), (qs, .inr (3, [.int tn, .ref qu, .ref qo, .ref qx, .ref qy, .ref qr, .ref qw])), (qo, .inl (cI, 12, .inl (fun j => nI (Oo j)))), (qx, .inl (cI, 12, .inl (fun j => nI (X j)))), (qy, .inl (cI, 12, .inl (fun j => nI (Y j)))), (q2, .inl (cI, 12, .inl (fun j => mI (upS (fun j => upTo (bkR St Mv Mt Oo X Y j) i) (X i) (fun j => upTo (bkR St Mv Mt Oo X Y (X i)) i j || decide (j = i)) j)))), (q3, .inl (cI, 12, .inl (fun j => mI (upTo (caR St Mt Oo X Y j) i))))] H := hP
                have hD : va_D A [(h0, .inr (2, [.ref qm, .ref qs, .int (mI St), .int (mI Mv), .int (mI Sm), .int (mI Ho), .ref q1, .ref q2, .ref q3, .ref q4, .int (mI Su), .int (mI (fun j => orU Mv (hsR St Mv Mt Oo X Y) i j || decide (j = i))), .int (mI Sd), .int (mI Od), .int (mI Sp), .int (mI Oq), .ref q5])), (qm, .inr (4, [.int (nI n), .int (mI S), .int (mI Ce), .ref qh, .ref qn])), (q1, .inl (cI, 12, .inl (fun j => mI (Mt j)))), (qs, .inr (3, [.int tn, .ref qu, .ref qo, .ref qx, .ref qy, .ref qr, .ref qw])), (qo, .inl (cI, 12, .inl (fun j => nI (Oo j)))), (qx, .inl (cI, 12, .inl (fun j => nI (X j)))), (qy, .inl (cI, 12, .inl (fun j => nI (Y j)))), (q2, .inl (cI, 12, .inl (fun j => mI (upS (fun j => upTo (bkR St Mv Mt Oo X Y j) i) (X i) (fun j => upTo (bkR St Mv Mt Oo X Y (X i)) i j || decide (j = i)) j)))), (q3, .inl (cI, 12, .inl (fun j => mI (upTo (caR St Mt Oo X Y j) i))))] := hD
                refine lv_aload_n hx hb d_Se_readHelpers_131 rfl (lv_at hl 5 rfl) ?_
                refine va_get (D := D) (ci := 2) (v := .ref qs) (C := R_Se) (T := T_Se) (N := 17) hx hb hts hin_Se hown hK hP 0 rfl rfl 1 (by decide) (hts _ wd_104) (fun _ h9 => h9) rfl d_Se_readHelpers_132 ?_
                refine va_get (D := D) (ci := 3) (v := .ref qo) (C := R_Sh) (T := T_Sh) (N := 7) hx hb hts hin_Sh hown hK hP 3 rfl rfl 2 (by decide) (hts _ wd_69) (fun _ h9 => h9) rfl d_Se_readHelpers_135 ?_
                refine lv_iload_n hx hb d_Se_readHelpers_138 rfl (lv_at hl 4 rfl) ?_
                refine tr_iald (v := nI (Oo i)) hx hb hK hP 4 0 rfl rfl i hlt12 (by decide) rfl d_Se_readHelpers_139 ?_
                refine lv_iconst (v := 3) hx hb d_Se_readHelpers_140 (by decide) ?_
                refine lv_icmp_ne (tgt := 162) hx hb d_Se_readHelpers_141 (by decide) (fun _ => ?_) (fun h0 => absurd ((nI_lit (Nat.lt_trans (hO4 _) (by decide)) (by decide)).mp h0) (fun h8 => absurd (hc86.symm.trans h8) (by decide)))
                refine lv_iinc (lv' := [(1, .int ((nI i) + 1)), (5, .int 1), (4, .int (bI ((Mt (Y i)) (X i)))), (3, .int (nI (Y i))), (2, .int (nI (X i))), (0, .ref h0)]) hx hb d_Se_readHelpers_162 hl (k := 4) rfl rfl (by decide) rfl (fun ls hl => ?_)
                refine lv_goto (tgt := 2) hx hb d_Se_readHelpers_165 (by decide) ?_
                have e111 : (nI i) + 1 = nI (i + 1) := nI_1 i
                have eo112 : (mI (fun j => orU Mv (hsR St Mv Mt Oo X Y) i j || decide (j = i))) = (mI (orU Mv (hsR St Mv Mt Oo X Y) (i + 1))) := mI_orY (show (hsR St Mv Mt Oo X Y) i = true by simp only [hsR, hb5, hb47, hb106] <;> simp [hsR, hb5, hc8, hb47, hc86, hb106])
                have eo113 : (fun j => mI (upS (fun j => upTo (bkR St Mv Mt Oo X Y j) i) (X i) (fun j => upTo (bkR St Mv Mt Oo X Y (X i)) i j || decide (j = i)) j)) = (fun j => mI (upTo (bkR St Mv Mt Oo X Y j) (i + 1))) := upT_Y (R := (bkR St Mv Mt Oo X Y)) (by simp only [bkR, hsR, hb5, hb47, hb106] <;> simp [bkR, hsR, hb5, hc8, hb47, hc86, hb106]) (fun x hx9 => by simp only [bkR, hsR, hb5, hb47, hb106, hx9] <;> simp [bkR, hsR, hb5, hc8, hb47, hc86, hb106, hx9])
                have eo114 : (fun j => mI (upTo (caR St Mt Oo X Y j) i)) = (fun j => mI (upTo (caR St Mt Oo X Y j) (i + 1))) := upT_N (R := (caR St Mt Oo X Y)) (fun x => by simp only [caR, hb5, hb47, hb106] <;> simp [caR, hb5, hc8, hb47, hc86, hb106])
                exact ih (i + 1) ls H locs (by omega) (by rw [← e111]; exact lv_sub hl [0, 5] rfl) (by rw [← eo112, ← eo113, ← eo114]; exact hP) (by rw [← eo112, ← eo113, ← eo114]; exact hD) hS
              · refine tr_top e9 ?_
                refine lv_if_ne (tgt := 105) hx hb d_Se_readHelpers_97 (by decide) (fun h0 => absurd (by decide) h0) (fun _ => ?_)
                refine lv_iload hx hb d_Se_readHelpers_100 (lv_at hl 0 rfl) ?_
                refine lv_if_eq (tgt := 131) hx hb d_Se_readHelpers_102 (by decide) (fun h0 => absurd h0 (by decide)) (fun _ => ?_)
                refine lv_aload_n hx hb d_Se_readHelpers_105 rfl (lv_at hl 5 rfl) ?_
                refine va_get (D := D) (ci := 2) (v := .ref q2) (C := R_Se) (T := T_Se) (N := 17) hx hb hts hin_Se hown hK hP 0 rfl rfl 7 (by decide) (hts _ wd_110) (fun _ h9 => h9) rfl d_Se_readHelpers_106 ?_
                refine lv_iload_n hx hb d_Se_readHelpers_109 rfl (lv_at hl 3 rfl) ?_
                refine lv_dup2_11 hx hb d_Se_readHelpers_110 rfl rfl ?_
                refine tr_iald (v := mI (upTo (bkR St Mv Mt Oo X Y (X i)) i)) hx hb hK hP 7 0 rfl rfl (X i) (hX12 _) (by decide) rfl d_Se_readHelpers_111 ?_
                refine lv_iload_n hx hb d_Se_readHelpers_112 rfl (lv_at hl 4 rfl) ?_
                have hPc := hP.sub (ws' := []) [] rfl
                refine vp_callSi (va_Run.run (va_runSN (As := [.int (nI i)]) (rest := [.int (mI (upTo (bkR St Mv Mt Oo X Y (X i)) i)), .int (nI (X i)), .ref q2]) ⟨hx, hb, hml, hown, hts⟩ (c_Sw_bitN l D cI cZ cJ cS aT ceT  i hlt12) (⟨va_cnB 1 hts (tb_c wd_411) rfl rfl rfl hX.2.2.2.2.2.2.2.2.1 (hts _ wd_1) ⟨by decide, by decide, by decide +kernel⟩ ⟨Nat.le_of_ble_eq_true rfl, Nat.le_of_ble_eq_true rfl⟩, hts _ wd_410, trivial⟩) (tP_S hK hX (hS.2.1 aT hXl hXn) hPc) rfl rfl hl.1 rfl (lv_room (Nat.le_of_ble_eq_true rfl)) d_Se_readHelpers_113 ⟨Nat.le_of_ble_eq_true rfl, Nat.le_of_ble_eq_true rfl⟩)) (fun r117 hr9 => ?_)
                rw [hr9]
                refine lv_ior hx hb d_Se_readHelpers_116 ?_
                refine tr_top (y := mI (fun j => upTo (bkR St Mv Mt Oo X Y (X i)) i j || decide (j = i))) (mI_or _ _) ?_
                refine tr_iast (g := fun j => mI (upS (fun j => upTo (bkR St Mv Mt Oo X Y j) i) (X i) (fun j => upTo (bkR St Mv Mt Oo X Y (X i)) i j || decide (j = i)) j)) hx hb hK hP hD hS 7 0 rfl rfl (X i) (hX12 _) (by decide) (upS_I (fun j => upTo (bkR St Mv Mt Oo X Y j) i) (X i) (fun j => upTo (bkR St Mv Mt Oo X Y (X i)) i j || decide (j = i))) d_Se_readHelpers_117 (fun H locs hP hD hS => ?_)
                have hP : va_P D vwCl [(h0, .inr (2, [.ref qm, .ref qs, .int (mI St), .int (mI Mv), .int (mI Sm), .int (mI Ho), .ref q1, .ref q2, .ref q3, .ref q4, .int (mI Su), .int (mI (orU Mv (hsR St Mv Mt Oo X Y) i)), .int (mI Sd), .int (mI Od), .int (mI Sp), .int (mI Oq), .ref q5])), (qm, .inr (4, [.int (nI n), .int (mI S), .int (mI Ce), .ref qh, .ref qn])), (q1, .inl (cI, 12, .inl (fun j => mI (Mt j)))), (qs, .inr (3, [.int tn, .ref qu, .ref qo, .ref qx, .ref qy, .ref qr, .ref qw])), (qo, .inl (cI, 12, .inl (fun j => nI (Oo j)))), (qx, .inl (cI, 12, .inl (fun j => nI (X j)))), (qy, .inl (cI, 12, .inl (fun j => nI (Y j)))), (q2, .inl (cI, 12, .inl (fun j => mI (upS (fun j => upTo (bkR St Mv Mt Oo X Y j) i) (X i) (fun j => upTo (bkR St Mv Mt Oo X Y (X i)) i j || decide (j = i)) j)))), (q3, .inl (cI, 12, .inl (fun j => mI (upTo (caR St Mt Oo X Y j) i))))] H := hP
                have hD : va_D A [(h0, .inr (2, [.ref qm, .ref qs, .int (mI St), .int (mI Mv), .int (mI Sm), .int (mI Ho), .ref q1, .ref q2, .ref q3, .ref q4, .int (mI Su), .int (mI (orU Mv (hsR St Mv Mt Oo X Y) i)), .int (mI Sd), .int (mI Od), .int (mI Sp), .int (mI Oq), .ref q5])), (qm, .inr (4, [.int (nI n), .int (mI S), .int (mI Ce), .ref qh, .ref qn])), (q1, .inl (cI, 12, .inl (fun j => mI (Mt j)))), (qs, .inr (3, [.int tn, .ref qu, .ref qo, .ref qx, .ref qy, .ref qr, .ref qw])), (qo, .inl (cI, 12, .inl (fun j => nI (Oo j)))), (qx, .inl (cI, 12, .inl (fun j => nI (X j)))), (qy, .inl (cI, 12, .inl (fun j => nI (Y j)))), (q2, .inl (cI, 12, .inl (fun j => mI (upS (fun j => upTo (bkR St Mv Mt Oo X Y j) i) (X i) (fun j => upTo (bkR St Mv Mt Oo X Y (X i)) i j || decide (j = i)) j)))), (q3, .inl (cI, 12, .inl (fun j => mI (upTo (caR St Mt Oo X Y j) i))))] := hD
                refine lv_aload_n hx hb d_Se_readHelpers_118 rfl (lv_at hl 5 rfl) ?_
                refine lv_dup hx hb d_Se_readHelpers_119 rfl ?_
                refine va_get (D := D) (ci := 2) (v := .int (mI (orU Mv (hsR St Mv Mt Oo X Y) i))) (C := R_Se) (T := T_Se) (N := 17) hx hb hts hin_Se hown hK hP 0 rfl rfl 11 (by decide) (hts _ wd_114) (fun _ h9 => h9) rfl d_Se_readHelpers_120 ?_
                refine lv_iload_n hx hb d_Se_readHelpers_123 rfl (lv_at hl 4 rfl) ?_
                have hPc := hP.sub (ws' := []) [] rfl
                refine vp_callSi (va_Run.run (va_runSN (As := [.int (nI i)]) (rest := [.int (mI (orU Mv (hsR St Mv Mt Oo X Y) i)), .ref h0]) ⟨hx, hb, hml, hown, hts⟩ (c_Sw_bitN l D cI cZ cJ cS aT ceT  i hlt12) (⟨va_cnB 1 hts (tb_c wd_411) rfl rfl rfl hX.2.2.2.2.2.2.2.2.1 (hts _ wd_1) ⟨by decide, by decide, by decide +kernel⟩ ⟨Nat.le_of_ble_eq_true rfl, Nat.le_of_ble_eq_true rfl⟩, hts _ wd_410, trivial⟩) (tP_S hK hX (hS.2.1 aT hXl hXn) hPc) rfl rfl hl.1 rfl (lv_room (Nat.le_of_ble_eq_true rfl)) d_Se_readHelpers_124 ⟨Nat.le_of_ble_eq_true rfl, Nat.le_of_ble_eq_true rfl⟩)) (fun r118 hr9 => ?_)
                rw [hr9]
                refine lv_ior hx hb d_Se_readHelpers_127 ?_
                refine tr_top (y := mI (fun j => orU Mv (hsR St Mv Mt Oo X Y) i j || decide (j = i))) (mI_or _ _) ?_
                refine va_put (D := D) (ci := 2) (v := .int (mI (fun j => orU Mv (hsR St Mv Mt Oo X Y) i j || decide (j = i)))) (ty := .int) (C := R_Se) (T := T_Se) (N := 17) hx hb hts hin_Se ty_Se tyok_Se nm_Se hown hK hP hD hS 0 rfl rfl 11 (by decide) (hts _ wd_114) (fun _ h9 => h9) rfl (by decide +kernel) rfl rfl (Nat.le_of_ble_eq_true rfl) d_Se_readHelpers_128 (fun H locs hP hD hS => ?_)
                have hP : va_P D vwCl [(h0, .inr (2, [.ref qm, .ref qs, .int (mI St), .int (mI Mv), .int (mI Sm), .int (mI Ho), .ref q1, .ref q2, .ref q3, .ref q4, .int (mI Su), .int (mI (fun j => orU Mv (hsR St Mv Mt Oo X Y) i j || decide (j = i))), .int (mI Sd), .int (mI Od), .int (mI Sp), .int (mI Oq), .ref q5])), (qm, .inr (4, [.int (nI n), .int (mI S), .int (mI Ce), .ref qh, .ref qn])), (q1, .inl (cI, 12, .inl (fun j => mI (Mt j)))), (qs, .inr (3, [.int tn, .ref qu, .ref qo, .ref qx, .ref qy, .ref qr, .ref qw])), (qo, .inl (cI, 12, .inl (fun j => nI (Oo j)))), (qx, .inl (cI, 12, .inl (fun j => nI (X j)))), (qy, .inl (cI, 12, .inl (fun j => nI (Y j)))), (q2, .inl (cI, 12, .inl (fun j => mI (upS (fun j => upTo (bkR St Mv Mt Oo X Y j) i) (X i) (fun j => upTo (bkR St Mv Mt Oo X Y (X i)) i j || decide (j = i)) j)))), (q3, .inl (cI, 12, .inl (fun j => mI (upTo (caR St Mt Oo X Y j) i))))] H := hP
                have hD : va_D A [(h0, .inr (2, [.ref qm, .ref qs, .int (mI St), .int (mI Mv), .int (mI Sm), .int (mI Ho), .ref q1, .ref q2, .ref q3, .ref q4, .int (mI Su), .int (mI (fun j => orU Mv (hsR St Mv Mt Oo X Y) i j || decide (j = i))), .int (mI Sd), .int (mI Od), .int (mI Sp), .int (mI Oq), .ref q5])), (qm, .inr (4, [.int (nI n), .int (mI S), .int (mI Ce), .ref qh, .ref qn])), (q1, .inl (cI, 12, .inl (fun j => mI (Mt j)))), (qs, .inr (3, [.int tn, .ref qu, .ref qo, .ref qx, .ref qy, .ref qr, .ref qw])), (qo, .inl (cI, 12, .inl (fun j => nI (Oo j)))), (qx, .inl (cI, 12, .inl (fun j => nI (X j)))), (qy, .inl (cI, 12, .inl (fun j => nI (Y j)))), (q2, .inl (cI, 12, .inl (fun j => mI (upS (fun j => upTo (bkR St Mv Mt Oo X Y j) i) (X i) (fun j => upTo (bkR St Mv Mt Oo X Y (X i)) i j || decide (j = i)) j)))), (q3, .inl (cI, 12, .inl (fun j => mI (upTo (caR St Mt Oo X Y j) i))))] := hD
                refine lv_aload_n hx hb d_Se_readHelpers_131 rfl (lv_at hl 5 rfl) ?_
                refine va_get (D := D) (ci := 2) (v := .ref qs) (C := R_Se) (T := T_Se) (N := 17) hx hb hts hin_Se hown hK hP 0 rfl rfl 1 (by decide) (hts _ wd_104) (fun _ h9 => h9) rfl d_Se_readHelpers_132 ?_
                refine va_get (D := D) (ci := 3) (v := .ref qo) (C := R_Sh) (T := T_Sh) (N := 7) hx hb hts hin_Sh hown hK hP 3 rfl rfl 2 (by decide) (hts _ wd_69) (fun _ h9 => h9) rfl d_Se_readHelpers_135 ?_
                refine lv_iload_n hx hb d_Se_readHelpers_138 rfl (lv_at hl 4 rfl) ?_
                refine tr_iald (v := nI (Oo i)) hx hb hK hP 4 0 rfl rfl i hlt12 (by decide) rfl d_Se_readHelpers_139 ?_
                refine lv_iconst (v := 3) hx hb d_Se_readHelpers_140 (by decide) ?_
                refine lv_icmp_ne (tgt := 162) hx hb d_Se_readHelpers_141 (by decide) (fun _ => ?_) (fun h0 => absurd ((nI_lit (Nat.lt_trans (hO4 _) (by decide)) (by decide)).mp h0) (fun h8 => absurd (hc86.symm.trans h8) (by decide)))
                refine lv_iinc (lv' := [(1, .int ((nI i) + 1)), (5, .int 1), (4, .int (bI ((Mt (Y i)) (X i)))), (3, .int (nI (Y i))), (2, .int (nI (X i))), (0, .ref h0)]) hx hb d_Se_readHelpers_162 hl (k := 4) rfl rfl (by decide) rfl (fun ls hl => ?_)
                refine lv_goto (tgt := 2) hx hb d_Se_readHelpers_165 (by decide) ?_
                have e120 : (nI i) + 1 = nI (i + 1) := nI_1 i
                have eo121 : (mI (fun j => orU Mv (hsR St Mv Mt Oo X Y) i j || decide (j = i))) = (mI (orU Mv (hsR St Mv Mt Oo X Y) (i + 1))) := mI_orY (show (hsR St Mv Mt Oo X Y) i = true by simp only [hsR, hb5, hb47, hb106] <;> simp [hsR, hb5, hc8, hb47, hc86, hb106])
                have eo122 : (fun j => mI (upS (fun j => upTo (bkR St Mv Mt Oo X Y j) i) (X i) (fun j => upTo (bkR St Mv Mt Oo X Y (X i)) i j || decide (j = i)) j)) = (fun j => mI (upTo (bkR St Mv Mt Oo X Y j) (i + 1))) := upT_Y (R := (bkR St Mv Mt Oo X Y)) (by simp only [bkR, hsR, hb5, hb47, hb106] <;> simp [bkR, hsR, hb5, hc8, hb47, hc86, hb106]) (fun x hx9 => by simp only [bkR, hsR, hb5, hb47, hb106, hx9] <;> simp [bkR, hsR, hb5, hc8, hb47, hc86, hb106, hx9])
                have eo123 : (fun j => mI (upTo (caR St Mt Oo X Y j) i)) = (fun j => mI (upTo (caR St Mt Oo X Y j) (i + 1))) := upT_N (R := (caR St Mt Oo X Y)) (fun x => by simp only [caR, hb5, hb47, hb106] <;> simp [caR, hb5, hc8, hb47, hc86, hb106])
                exact ih (i + 1) ls H locs (by omega) (by rw [← e120]; exact lv_sub hl [0, 5] rfl) (by rw [← eo121, ← eo122, ← eo123]; exact hP) (by rw [← eo121, ← eo122, ← eo123]; exact hD) hS
      · refine tr_top e9 ?_
        refine lv_if_ne (tgt := 27) hx hb d_Se_readHelpers_21 (by decide) (fun h0 => absurd (by decide) h0) (fun _ => ?_)
        refine lv_goto (tgt := 162) hx hb d_Se_readHelpers_24 (by decide) ?_
        refine lv_iinc (lv' := [(1, .int ((nI i) + 1)), (0, .ref h0)]) hx hb d_Se_readHelpers_162 hl (k := 0) rfl rfl (by decide) rfl (fun ls hl => ?_)
        refine lv_goto (tgt := 2) hx hb d_Se_readHelpers_165 (by decide) ?_
        have e125 : (nI i) + 1 = nI (i + 1) := nI_1 i
        have eo126 : (mI (orU Mv (hsR St Mv Mt Oo X Y) i)) = (mI (orU Mv (hsR St Mv Mt Oo X Y) (i + 1))) := mI_orN (show (hsR St Mv Mt Oo X Y) i = false by simp only [hsR, hb5] <;> simp [hsR, hb5])
        have eo127 : (fun j => mI (upTo (bkR St Mv Mt Oo X Y j) i)) = (fun j => mI (upTo (bkR St Mv Mt Oo X Y j) (i + 1))) := upT_N (R := (bkR St Mv Mt Oo X Y)) (fun x => by simp only [bkR, hsR, hb5] <;> simp [bkR, hsR, hb5])
        have eo128 : (fun j => mI (upTo (caR St Mt Oo X Y j) i)) = (fun j => mI (upTo (caR St Mt Oo X Y j) (i + 1))) := upT_N (R := (caR St Mt Oo X Y)) (fun x => by simp only [caR, hb5] <;> simp [caR, hb5])
        exact ih (i + 1) ls H locs (by omega) (by rw [← e125]; exact lv_sub hl [0, 1] rfl) (by rw [← eo126, ← eo127, ← eo128]; exact hP) (by rw [← eo126, ← eo127, ← eo128]; exact hD) hS
  have ei129 : (mI (orU Mv (hsR St Mv Mt Oo X Y) 0)) = (mI Mv) := mI_or0 _ _
  have ei130 : (fun j => mI (upTo (bkR St Mv Mt Oo X Y j) 0)) = (fun _ => 0) := upT_0 _
  have ei131 : (fun j => mI (upTo (caR St Mt Oo X Y j) 0)) = (fun _ => 0) := upT_0 _
  exact loop n 0 ls _ _ (Nat.zero_add _) hl (by rw [ei129, ei130, ei131]; exact hP) (by rw [ei129, ei130, ei131]; exact hD) hS
