/-- one pass over the areas: what is reached reaches its neighbours among the fleets -/
def psR (N : Nat → Nat → Bool) (Fl R : Nat → Bool) : Nat → Nat → Bool
  | 0 => R
  | i + 1 => fun j => psR N Fl R i j || (psR N Fl R i i && (N i j && Fl j))
def rcC (N : Nat → Nat → Bool) (Fl : Nat → Bool) (n a : Nat) : Nat → Nat → Bool
  | 0 => fun j => N a j && Fl j
  | k + 1 => psR N Fl (rcC N Fl n a k) n
def chnC (N : Nat → Nat → Bool) (X : Nat → Nat) (n : Nat) (Fl : Nat → Bool) (a : Nat) : Bool := anyB (fun j => rcC N Fl n a 12 j && N (X a) j) 12

theorem d_Se_isChain_0 : decode b_Se_isChain 0 = .ok (.aload_n 0, 1) := by decide +kernel
theorem d_Se_isChain_1 : decode b_Se_isChain 1 = .ok (.getfield 27, 3) := by decide +kernel
theorem d_Se_isChain_4 : decode b_Se_isChain 4 = .ok (.getfield 183, 3) := by decide +kernel
theorem d_Se_isChain_7 : decode b_Se_isChain 7 = .ok (.iload_n 1, 1) := by decide +kernel
theorem d_Se_isChain_8 : decode b_Se_isChain 8 = .ok (.iaload, 1) := by decide +kernel
theorem d_Se_isChain_9 : decode b_Se_isChain 9 = .ok (.iload_n 2, 1) := by decide +kernel
theorem d_Se_isChain_10 : decode b_Se_isChain 10 = .ok (.iand, 1) := by decide +kernel
theorem d_Se_isChain_11 : decode b_Se_isChain 11 = .ok (.istore_n 3, 1) := by decide +kernel
theorem d_Se_isChain_12 : decode b_Se_isChain 12 = .ok (.iconst 0, 1) := by decide +kernel
theorem d_Se_isChain_13 : decode b_Se_isChain 13 = .ok (.istore 4, 2) := by decide +kernel
theorem d_Se_isChain_15 : decode b_Se_isChain 15 = .ok (.iload 4, 2) := by decide +kernel
theorem d_Se_isChain_17 : decode b_Se_isChain 17 = .ok (.bipush 12, 2) := by decide +kernel
theorem d_Se_isChain_19 : decode b_Se_isChain 19 = .ok (.if_icmp .ge 54, 3) := by decide +kernel
theorem d_Se_isChain_22 : decode b_Se_isChain 22 = .ok (.iconst 0, 1) := by decide +kernel
theorem d_Se_isChain_23 : decode b_Se_isChain 23 = .ok (.istore 5, 2) := by decide +kernel
theorem d_Se_isChain_25 : decode b_Se_isChain 25 = .ok (.iload 5, 2) := by decide +kernel
theorem d_Se_isChain_27 : decode b_Se_isChain 27 = .ok (.aload_n 0, 1) := by decide +kernel
theorem d_Se_isChain_28 : decode b_Se_isChain 28 = .ok (.getfield 27, 3) := by decide +kernel
theorem d_Se_isChain_31 : decode b_Se_isChain 31 = .ok (.getfield 93, 3) := by decide +kernel
theorem d_Se_isChain_34 : decode b_Se_isChain 34 = .ok (.if_icmp .ge 33, 3) := by decide +kernel
theorem d_Se_isChain_37 : decode b_Se_isChain 37 = .ok (.iload_n 3, 1) := by decide +kernel
theorem d_Se_isChain_38 : decode b_Se_isChain 38 = .ok (.iload 5, 2) := by decide +kernel
theorem d_Se_isChain_40 : decode b_Se_isChain 40 = .ok (.invokestatic 83, 3) := by decide +kernel
theorem d_Se_isChain_43 : decode b_Se_isChain 43 = .ok (.ifCond .eq 18, 3) := by decide +kernel
theorem d_Se_isChain_46 : decode b_Se_isChain 46 = .ok (.iload_n 3, 1) := by decide +kernel
theorem d_Se_isChain_47 : decode b_Se_isChain 47 = .ok (.aload_n 0, 1) := by decide +kernel
theorem d_Se_isChain_48 : decode b_Se_isChain 48 = .ok (.getfield 27, 3) := by decide +kernel
theorem d_Se_isChain_51 : decode b_Se_isChain 51 = .ok (.getfield 183, 3) := by decide +kernel
theorem d_Se_isChain_54 : decode b_Se_isChain 54 = .ok (.iload 5, 2) := by decide +kernel
theorem d_Se_isChain_56 : decode b_Se_isChain 56 = .ok (.iaload, 1) := by decide +kernel
theorem d_Se_isChain_57 : decode b_Se_isChain 57 = .ok (.iload_n 2, 1) := by decide +kernel
theorem d_Se_isChain_58 : decode b_Se_isChain 58 = .ok (.iand, 1) := by decide +kernel
theorem d_Se_isChain_59 : decode b_Se_isChain 59 = .ok (.ior, 1) := by decide +kernel
theorem d_Se_isChain_60 : decode b_Se_isChain 60 = .ok (.istore_n 3, 1) := by decide +kernel
theorem d_Se_isChain_61 : decode b_Se_isChain 61 = .ok (.iinc 5 1, 3) := by decide +kernel
theorem d_Se_isChain_64 : decode b_Se_isChain 64 = .ok (.goto (-39), 3) := by decide +kernel
theorem d_Se_isChain_67 : decode b_Se_isChain 67 = .ok (.iinc 4 1, 3) := by decide +kernel
theorem d_Se_isChain_70 : decode b_Se_isChain 70 = .ok (.goto (-55), 3) := by decide +kernel
theorem d_Se_isChain_73 : decode b_Se_isChain 73 = .ok (.iload_n 3, 1) := by decide +kernel
theorem d_Se_isChain_74 : decode b_Se_isChain 74 = .ok (.aload_n 0, 1) := by decide +kernel
theorem d_Se_isChain_75 : decode b_Se_isChain 75 = .ok (.getfield 27, 3) := by decide +kernel
theorem d_Se_isChain_78 : decode b_Se_isChain 78 = .ok (.getfield 183, 3) := by decide +kernel
theorem d_Se_isChain_81 : decode b_Se_isChain 81 = .ok (.aload_n 0, 1) := by decide +kernel
theorem d_Se_isChain_82 : decode b_Se_isChain 82 = .ok (.getfield 31, 3) := by decide +kernel
theorem d_Se_isChain_85 : decode b_Se_isChain 85 = .ok (.getfield 105, 3) := by decide +kernel
theorem d_Se_isChain_88 : decode b_Se_isChain 88 = .ok (.iload_n 1, 1) := by decide +kernel
theorem d_Se_isChain_89 : decode b_Se_isChain 89 = .ok (.iaload, 1) := by decide +kernel
theorem d_Se_isChain_90 : decode b_Se_isChain 90 = .ok (.iaload, 1) := by decide +kernel
theorem d_Se_isChain_91 : decode b_Se_isChain 91 = .ok (.iand, 1) := by decide +kernel
theorem d_Se_isChain_92 : decode b_Se_isChain 92 = .ok (.ifCond .eq 7, 3) := by decide +kernel
theorem d_Se_isChain_95 : decode b_Se_isChain 95 = .ok (.iconst 1, 1) := by decide +kernel
theorem d_Se_isChain_96 : decode b_Se_isChain 96 = .ok (.goto 4, 3) := by decide +kernel
theorem d_Se_isChain_99 : decode b_Se_isChain 99 = .ok (.iconst 0, 1) := by decide +kernel
theorem d_Se_isChain_100 : decode b_Se_isChain 100 = .ok (.ireturn, 1) := by decide +kernel
theorem wd_40 : (Cond.fieldLink "SheetWar$Settling" (183 : Nat) "SheetWar$WarMap" "neighbours" "[I") ∈ TB := tb_t 40 (by decide +kernel) (by decide +kernel)
set_option maxHeartbeats 4000000 in
set_option maxRecDepth 100000 in
theorem c_Se_isChain (l : Launch) (D : va_G) (cI cZ cJ cS : ClassId) (aT : Nat) (ceT : Cell) (h0 qm qs q1 q2 q3 q4 q5 : Nat) (St Mv Sm Ho Su Op Sd Od Sp Oq : Nat → Bool) (qh qn n : Nat) (S Ce : Nat → Bool) (N : Nat → Nat → Bool) (tn : Int32) (qu qo qx qy qr qw : Nat) (X : Nat → Nat) (Fl : Nat → Bool) (a : Nat) (hX12 : ∀ j, X j < 12) (hn : n ≤ 12) (h_a : a < 12) : Met l y_Se_isChain w_Se_isChain ({ frames := 1, cells := 0, slots := 0, locals := 21 }) (tP D cI cZ cJ cS aT ceT [.ref h0, .int (nI a), .int (mI Fl)] [(h0, .inr (2, [.ref qm, .ref qs, .int (mI St), .int (mI Mv), .int (mI Sm), .int (mI Ho), .ref q1, .ref q2, .ref q3, .ref q4, .int (mI Su), .int (mI Op), .int (mI Sd), .int (mI Od), .int (mI Sp), .int (mI Oq), .ref q5])), (qm, .inr (4, [.int (nI n), .int (mI S), .int (mI Ce), .ref qh, .ref qn])), (qn, .inl (cI, 12, .inl (fun j => mI (N j)))), (qs, .inr (3, [.int tn, .ref qu, .ref qo, .ref qx, .ref qy, .ref qr, .ref qw])), (qx, .inl (cI, 12, .inl (fun j => nI (X j))))]) (vp_Si (fun r => r = bI (chnC N X n Fl a))) 0 0 (fun _ => False) := by
  refine Met.ofW (cc := b_Se_isChain) (maxL := 6) (ret := (some .boolean)) (by decide) rfl ?_
  intro p e s m args below meth c s₁ B hml hv
  obtain ⟨rfl, hP, hK, hX⟩ := hv
  have hx := B.exec
  have hb := B.bytes
  have hr := B.returns
  have hts0 := atoms_spec (ws := w_Se_isChain) B.pre
  have hts : ∀ w ∈ TB, w.before _ s = true := fun w h => hts0 w (List.mem_cons_of_mem _ h)
  have hown : s.vm.findClass R_Se = some m.cls := findClass_of_methodNamed B.named
  have hlocks := B.notSynchronized
  have hXH : s.heap[aT]? = s.heap[aT]? := rfl
  have hl := lv_entry ([.ref h0, .int (nI a), .int (mI Fl)]) (n := 6) (Nat.le_of_ble_eq_true rfl)
  rw [lg_entry_eq]
  generalize (lg_sl ([.ref h0, .int (nI a), .int (mI Fl)]) ++ List.replicate (6 - (lg_sl ([.ref h0, .int (nI a), .int (mI Fl)])).length) Slot.unset).toArray = ls at hl ⊢
  have hl : lv_has ls 6 [(0, .ref h0), (1, .int (nI a)), (2, .int (mI Fl))] := hl
  refine lv_aload_n hx hb d_Se_isChain_0 rfl (lv_at hl 0 rfl) ?_
  refine va_get (D := D) (ci := 2) (v := .ref qm) (C := R_Se) (T := T_Se) (N := 17) hx hb hts hin_Se hown hK hP 0 rfl rfl 0 (by decide) (hts _ wd_103) (fun _ h9 => h9) rfl d_Se_isChain_1 ?_
  refine va_get (D := D) (ci := 4) (v := .ref qn) (C := R_Wm) (T := T_Wm) (N := 5) hx hb hts hin_Wm hown hK hP 1 rfl rfl 4 (by decide) (hts _ wd_40) (fun _ h9 => h9) rfl d_Se_isChain_4 ?_
  refine lv_iload_n hx hb d_Se_isChain_7 rfl (lv_at hl 1 rfl) ?_
  refine tr_iald (v := mI (N a)) hx hb hK hP 2 0 rfl rfl a h_a (by decide) rfl d_Se_isChain_8 ?_
  refine lv_iload_n hx hb d_Se_isChain_9 rfl (lv_at hl 2 rfl) ?_
  refine lv_iand hx hb d_Se_isChain_10 ?_
  refine tr_top (y := mI (fun j => N a j && Fl j)) (mI_and _ _) ?_
  refine lv_istore_n (lv' := [(3, .int (mI (fun j => N a j && Fl j))), (0, .ref h0), (1, .int (nI a)), (2, .int (mI Fl))]) hx hb d_Se_isChain_11 rfl hl (by decide) rfl (fun ls hl => ?_)
  refine lv_iconst (v := 0) hx hb d_Se_isChain_12 (by decide) ?_
  refine lv_istore (lv' := [(4, .int 0), (3, .int (mI (fun j => N a j && Fl j))), (0, .ref h0), (1, .int (nI a)), (2, .int (mI Fl))]) hx hb d_Se_isChain_13 hl (by decide) rfl (fun ls hl => ?_)
  have loop : ∀ (k i : Nat) (ls : Array Slot), i + k = 12 → lv_has ls 6 [(4, .int (nI i)), (3, .int (mI (rcC N Fl n a i))), (0, .ref h0), (1, .int (nI a)), (2, .int (mI Fl))] → W p l e (headSpec w_Se_isChain ({ frames := 1, cells := 0, slots := 0, locals := 21 })).room s m ([.ref h0, .int (nI a), .int (mI Fl)]).toArray below meth c s.heap [] 0 0 (MQ below (vp_Si (fun r => r = bI (chnC N X n Fl a))) ([.ref h0, .int (nI a), .int (mI Fl)]).toArray s 0 0 (fun _ => False)) (F0 m 15 ls []) := by
    intro k
    induction k with
    | zero =>
      intro i ls hi hl
      obtain rfl : i = 12 := by omega
      refine lv_iload hx hb d_Se_isChain_15 (lv_at hl 0 rfl) ?_
      refine lv_bipush (v := 12) hx hb d_Se_isChain_17 (by decide) ?_
      refine lv_icmp_ge (tgt := 73) hx hb d_Se_isChain_19 (by decide) (fun _ => ?_) (fun h0 => absurd (by decide) h0)
      refine lv_iload_n hx hb d_Se_isChain_73 rfl (lv_at hl 1 rfl) ?_
      refine lv_aload_n hx hb d_Se_isChain_74 rfl (lv_at hl 2 rfl) ?_
      refine va_get (D := D) (ci := 2) (v := .ref qm) (C := R_Se) (T := T_Se) (N := 17) hx hb hts hin_Se hown hK hP 0 rfl rfl 0 (by decide) (hts _ wd_103) (fun _ h9 => h9) rfl d_Se_isChain_75 ?_
      refine va_get (D := D) (ci := 4) (v := .ref qn) (C := R_Wm) (T := T_Wm) (N := 5) hx hb hts hin_Wm hown hK hP 1 rfl rfl 4 (by decide) (hts _ wd_40) (fun _ h9 => h9) rfl d_Se_isChain_78 ?_
      refine lv_aload_n hx hb d_Se_isChain_81 rfl (lv_at hl 2 rfl) ?_
      refine va_get (D := D) (ci := 2) (v := .ref qs) (C := R_Se) (T := T_Se) (N := 17) hx hb hts hin_Se hown hK hP 0 rfl rfl 1 (by decide) (hts _ wd_104) (fun _ h9 => h9) rfl d_Se_isChain_82 ?_
      refine va_get (D := D) (ci := 3) (v := .ref qx) (C := R_Sh) (T := T_Sh) (N := 7) hx hb hts hin_Sh hown hK hP 3 rfl rfl 3 (by decide) (hts _ wd_72) (fun _ h9 => h9) rfl d_Se_isChain_85 ?_
      refine lv_iload_n hx hb d_Se_isChain_88 rfl (lv_at hl 3 rfl) ?_
      refine tr_iald (v := nI (X a)) hx hb hK hP 4 0 rfl rfl a h_a (by decide) rfl d_Se_isChain_89 ?_
      refine tr_iald (v := mI (N (X a))) hx hb hK hP 2 0 rfl rfl (X a) (hX12 _) (by decide) rfl d_Se_isChain_90 ?_
      refine lv_iand hx hb d_Se_isChain_91 ?_
      refine tr_top (y := mI (fun j => rcC N Fl n a 12 j && N (X a) j)) (mI_and _ _) ?_
      cases hm3 : anyB (fun j => rcC N Fl n a 12 j && N (X a) j) 12 with
      | false =>
        refine tr_top ((mI_eq0 _).mpr hm3) ?_
        refine lv_if_eq (tgt := 99) hx hb d_Se_isChain_92 (by decide) (fun _ => ?_) (fun h0 => absurd (by decide) h0)
        refine lv_iconst (v := 0) hx hb d_Se_isChain_99 (by decide) ?_
        exact W.zret (v := 0) hx hb hr (by decide) (fun t ht hW => ⟨0, rfl, (bI_f (show chnC N X n Fl a = false from hm3)).symm, ht⟩) (fun q hq => by cases hq) d_Se_isChain_100
      | true =>
        refine lv_if_eq (tgt := 99) hx hb d_Se_isChain_92 (by decide) (fun h0 => absurd ((mI_eq0 _).mp h0) (by rw [hm3]; decide)) (fun _ => ?_)
        refine lv_iconst (v := 1) hx hb d_Se_isChain_95 (by decide) ?_
        refine lv_goto (tgt := 100) hx hb d_Se_isChain_96 (by decide) ?_
        exact W.zret (v := 1) hx hb hr (by decide) (fun t ht hW => ⟨1, rfl, (bI_t (show chnC N X n Fl a = true from hm3)).symm, ht⟩) (fun q hq => by cases hq) d_Se_isChain_100
    | succ k ih =>
      intro i ls hi hl
      have hlt : i < 12 := by omega
      refine lv_iload hx hb d_Se_isChain_15 (lv_at hl 0 rfl) ?_
      refine lv_bipush (v := 12) hx hb d_Se_isChain_17 (by decide) ?_
      refine lv_icmp_ge (tgt := 73) hx hb d_Se_isChain_19 (by decide) (fun h0 => absurd h0 (nI_ge hlt (by decide))) (fun _ => ?_)
      refine lv_iconst (v := 0) hx hb d_Se_isChain_22 (by decide) ?_
      refine lv_istore (lv' := [(5, .int 0), (4, .int (nI i)), (3, .int (mI (rcC N Fl n a i))), (0, .ref h0), (1, .int (nI a)), (2, .int (mI Fl))]) hx hb d_Se_isChain_23 hl (by decide) rfl (fun ls hl => ?_)
      have nloop : ∀ (k9 i9 : Nat) (ls : Array Slot), i9 + k9 = n → lv_has ls 6 [(5, .int (nI i9)), (4, .int (nI i)), (3, .int (mI (psR N Fl (rcC N Fl n a i) i9))), (0, .ref h0), (1, .int (nI a)), (2, .int (mI Fl))] → W p l e (headSpec w_Se_isChain ({ frames := 1, cells := 0, slots := 0, locals := 21 })).room s m ([.ref h0, .int (nI a), .int (mI Fl)]).toArray below meth c s.heap [] 0 0 (MQ below (vp_Si (fun r => r = bI (chnC N X n Fl a))) ([.ref h0, .int (nI a), .int (mI Fl)]).toArray s 0 0 (fun _ => False)) (F0 m 25 ls []) := by
        intro k9
        induction k9 with
        | zero =>
          intro i9 ls hi9 hl
          have hie9 : i9 = n := by omega
          rw [hie9] at hl
          refine lv_iload hx hb d_Se_isChain_25 (lv_at hl 0 rfl) ?_
          refine lv_aload_n hx hb d_Se_isChain_27 rfl (lv_at hl 3 rfl) ?_
          refine va_get (D := D) (ci := 2) (v := .ref qm) (C := R_Se) (T := T_Se) (N := 17) hx hb hts hin_Se hown hK hP 0 rfl rfl 0 (by decide) (hts _ wd_103) (fun _ h9 => h9) rfl d_Se_isChain_28 ?_
          refine va_get (D := D) (ci := 4) (v := .int (nI n)) (C := R_Wm) (T := T_Wm) (N := 5) hx hb hts hin_Wm hown hK hP 1 rfl rfl 0 (by decide) (hts _ wd_33) (fun _ h9 => h9) rfl d_Se_isChain_31 ?_
          refine lv_icmp_ge (tgt := 67) hx hb d_Se_isChain_34 (by decide) (fun _ => ?_) (fun h0 => absurd (Int32.le_refl _) h0)
          refine lv_iinc (lv' := [(4, .int ((nI i) + 1)), (5, .int (nI n)), (3, .int (mI (psR N Fl (rcC N Fl n a i) n))), (0, .ref h0), (1, .int (nI a)), (2, .int (mI Fl))]) hx hb d_Se_isChain_67 hl (k := 1) rfl rfl (by decide) rfl (fun ls hl => ?_)
          refine lv_goto (tgt := 15) hx hb d_Se_isChain_70 (by decide) ?_
          have e7 : (nI i) + 1 = nI (i + 1) := nI_1 i
          have e8 : mI (psR N Fl (rcC N Fl n a i) n) = mI (rcC N Fl n a (i + 1)) := rfl
          rw [e7, e8] at hl
          exact ih (i + 1) ls (by omega) (lv_sub hl [0, 2, 3, 4, 5] rfl)
        | succ k9 ih9 =>
          intro i9 ls hi9 hl
          have hlt9 : i9 < n := by omega
          have hlt912 : i9 < 12 := by omega
          refine lv_iload hx hb d_Se_isChain_25 (lv_at hl 0 rfl) ?_
          refine lv_aload_n hx hb d_Se_isChain_27 rfl (lv_at hl 3 rfl) ?_
          refine va_get (D := D) (ci := 2) (v := .ref qm) (C := R_Se) (T := T_Se) (N := 17) hx hb hts hin_Se hown hK hP 0 rfl rfl 0 (by decide) (hts _ wd_103) (fun _ h9 => h9) rfl d_Se_isChain_28 ?_
          refine va_get (D := D) (ci := 4) (v := .int (nI n)) (C := R_Wm) (T := T_Wm) (N := 5) hx hb hts hin_Wm hown hK hP 1 rfl rfl 0 (by decide) (hts _ wd_33) (fun _ h9 => h9) rfl d_Se_isChain_31 ?_
          refine lv_icmp_ge (tgt := 67) hx hb d_Se_isChain_34 (by decide) (fun h0 => absurd h0 (nI_ge hlt9 (by omega))) (fun _ => ?_)
          refine lv_iload_n hx hb d_Se_isChain_37 rfl (lv_at hl 2 rfl) ?_
          refine lv_iload hx hb d_Se_isChain_38 (lv_at hl 0 rfl) ?_
          have hPc := hP.sub (ws' := []) [] rfl
          refine vp_callSi (va_Run.run (va_runSN (As := [.int (mI (psR N Fl (rcC N Fl n a i) i9)), .int (nI i9)]) (rest := []) ⟨hx, hb, hml, hown, hts⟩ (c_Sw_in l D cI cZ cJ cS aT ceT  (psR N Fl (rcC N Fl n a i) i9) i9 hlt912) (⟨va_cnB 2 hts (tb_c wd_285) rfl rfl rfl hX.2.2.2.2.2.2.2.1 (hts _ wd_1) ⟨by decide, by decide, by decide +kernel⟩ ⟨Nat.le_of_ble_eq_true rfl, Nat.le_of_ble_eq_true rfl⟩, hts _ wd_284, trivial⟩) (tP_S hK hX hXH hPc) rfl rfl hl.1 rfl (lv_room (Nat.le_of_ble_eq_true rfl)) d_Se_isChain_40 ⟨Nat.le_of_ble_eq_true rfl, Nat.le_of_ble_eq_true rfl⟩)) (fun r10 hr9 => ?_)
          rw [hr9]
          rcases bI_c ((psR N Fl (rcC N Fl n a i) i9) i9) with ⟨hb12, e9⟩ | ⟨hb12, e9⟩
          · refine tr_top e9 ?_
            refine lv_if_eq (tgt := 61) hx hb d_Se_isChain_43 (by decide) (fun h0 => absurd h0 (by decide)) (fun _ => ?_)
            refine lv_iload_n hx hb d_Se_isChain_46 rfl (lv_at hl 2 rfl) ?_
            refine lv_aload_n hx hb d_Se_isChain_47 rfl (lv_at hl 3 rfl) ?_
            refine va_get (D := D) (ci := 2) (v := .ref qm) (C := R_Se) (T := T_Se) (N := 17) hx hb hts hin_Se hown hK hP 0 rfl rfl 0 (by decide) (hts _ wd_103) (fun _ h9 => h9) rfl d_Se_isChain_48 ?_
            refine va_get (D := D) (ci := 4) (v := .ref qn) (C := R_Wm) (T := T_Wm) (N := 5) hx hb hts hin_Wm hown hK hP 1 rfl rfl 4 (by decide) (hts _ wd_40) (fun _ h9 => h9) rfl d_Se_isChain_51 ?_
            refine lv_iload hx hb d_Se_isChain_54 (lv_at hl 0 rfl) ?_
            refine tr_iald (v := mI (N i9)) hx hb hK hP 2 0 rfl rfl i9 hlt912 (by decide) rfl d_Se_isChain_56 ?_
            refine lv_iload_n hx hb d_Se_isChain_57 rfl (lv_at hl 5 rfl) ?_
            refine lv_iand hx hb d_Se_isChain_58 ?_
            refine tr_top (y := mI (fun j => N i9 j && Fl j)) (mI_and _ _) ?_
            refine lv_ior hx hb d_Se_isChain_59 ?_
            refine tr_top (y := mI (fun j => psR N Fl (rcC N Fl n a i) i9 j || (N i9 j && Fl j))) (mI_or _ _) ?_
            refine lv_istore_n (lv' := [(3, .int (mI (fun j => psR N Fl (rcC N Fl n a i) i9 j || (N i9 j && Fl j)))), (5, .int (nI i9)), (4, .int (nI i)), (0, .ref h0), (1, .int (nI a)), (2, .int (mI Fl))]) hx hb d_Se_isChain_60 rfl hl (by decide) rfl (fun ls hl => ?_)
            refine lv_iinc (lv' := [(5, .int ((nI i9) + 1)), (3, .int (mI (fun j => psR N Fl (rcC N Fl n a i) i9 j || (N i9 j && Fl j)))), (4, .int (nI i)), (0, .ref h0), (1, .int (nI a)), (2, .int (mI Fl))]) hx hb d_Se_isChain_61 hl (k := 1) rfl rfl (by decide) rfl (fun ls hl => ?_)
            refine lv_goto (tgt := 25) hx hb d_Se_isChain_64 (by decide) ?_
            have e14 : (nI i9) + 1 = nI (i9 + 1) := nI_1 i9
            have e15 : mI (fun j => psR N Fl (rcC N Fl n a i) i9 j || (N i9 j && Fl j)) = mI (psR N Fl (rcC N Fl n a i) (i9 + 1)) := congrArg mI (show (fun j => psR N Fl (rcC N Fl n a i) i9 j || (N i9 j && Fl j)) = psR N Fl (rcC N Fl n a i) (i9 + 1) from funext fun j => by simp [psR, hb12])
            exact ih9 (i9 + 1) ls (by omega) (by rw [← e14, ← e15]; exact lv_sub hl [0, 2, 1, 3, 4, 5] rfl)
          · refine tr_top e9 ?_
            refine lv_if_eq (tgt := 61) hx hb d_Se_isChain_43 (by decide) (fun _ => ?_) (fun h0 => absurd (by decide) h0)
            refine lv_iinc (lv' := [(5, .int ((nI i9) + 1)), (4, .int (nI i)), (3, .int (mI (psR N Fl (rcC N Fl n a i) i9))), (0, .ref h0), (1, .int (nI a)), (2, .int (mI Fl))]) hx hb d_Se_isChain_61 hl (k := 0) rfl rfl (by decide) rfl (fun ls hl => ?_)
            refine lv_goto (tgt := 25) hx hb d_Se_isChain_64 (by decide) ?_
            have e17 : (nI i9) + 1 = nI (i9 + 1) := nI_1 i9
            have e18 : mI (psR N Fl (rcC N Fl n a i) i9) = mI (psR N Fl (rcC N Fl n a i) (i9 + 1)) := congrArg mI (show (psR N Fl (rcC N Fl n a i) i9) = psR N Fl (rcC N Fl n a i) (i9 + 1) from funext fun j => by simp [psR, hb12])
            exact ih9 (i9 + 1) ls (by omega) (by rw [← e17, ← e18]; exact lv_sub hl [0, 1, 2, 3, 4, 5] rfl)
      exact nloop n 0 ls (Nat.zero_add _) hl
  exact loop 12 0 ls rfl hl
