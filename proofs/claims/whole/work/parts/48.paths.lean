/-- the moves by land, and those of p below i -/
def spU (Mv Sm p : Nat → Bool) (i : Nat) : Nat → Bool := fun j => (Mv j && !Sm j) || upTo p i j
theorem mI_sp0 (Mv Sm p : Nat → Bool) : mI (fun j => Mv j && !(Sm j)) = mI (spU Mv Sm p 0) := mI_congr (fun j _ => by simp [spU, upTo])
theorem mI_spY {Mv Sm p : Nat → Bool} {i : Nat} (h : p i = true) : mI (fun j => spU Mv Sm p i j || decide (j = i)) = mI (spU Mv Sm p (i + 1)) := mI_congr (fun j _ => by
  unfold spU upTo
  by_cases hj : j = i
  · subst hj; simp [h]
  · have h1 : decide (j < i + 1) = decide (j < i) := by simp; omega
    rw [h1]; simp [hj])
theorem mI_spN {Mv Sm p : Nat → Bool} {i : Nat} (h : p i = false) : mI (spU Mv Sm p i) = mI (spU Mv Sm p (i + 1)) := mI_congr (fun j _ => by
  unfold spU upTo
  by_cases hj : j = i
  · subst hj; simp [h]
  · have h1 : decide (j < i + 1) = decide (j < i) := by simp; omega
    rw [h1])
def spP (N Ca : Nat → Nat → Bool) (X : Nat → Nat) (Sm Sd Od : Nat → Bool) (n a : Nat) : Bool := Sm a && chnC N X n (fun j => (Ca a j && !(Sd j)) && !(Od j)) a
def oqP (N Ca : Nat → Nat → Bool) (X : Nat → Nat) (Sm Sd Od : Nat → Bool) (n a : Nat) : Bool := Sm a && !chnC N X n (fun j => (Ca a j && !(Sd j)) && !(Od j)) a && chnC N X n (fun j => Ca a j && !(Sd j)) a

theorem d_Se_lookForPaths_0 : decode b_Se_lookForPaths 0 = .ok (.aload_n 0, 1) := by decide +kernel
theorem d_Se_lookForPaths_1 : decode b_Se_lookForPaths 1 = .ok (.aload_n 0, 1) := by decide +kernel
theorem d_Se_lookForPaths_2 : decode b_Se_lookForPaths 2 = .ok (.getfield 66, 3) := by decide +kernel
theorem d_Se_lookForPaths_5 : decode b_Se_lookForPaths 5 = .ok (.aload_n 0, 1) := by decide +kernel
theorem d_Se_lookForPaths_6 : decode b_Se_lookForPaths 6 = .ok (.getfield 111, 3) := by decide +kernel
theorem d_Se_lookForPaths_9 : decode b_Se_lookForPaths 9 = .ok (.iconst (-1), 1) := by decide +kernel
theorem d_Se_lookForPaths_10 : decode b_Se_lookForPaths 10 = .ok (.ixor, 1) := by decide +kernel
theorem d_Se_lookForPaths_11 : decode b_Se_lookForPaths 11 = .ok (.iand, 1) := by decide +kernel
theorem d_Se_lookForPaths_12 : decode b_Se_lookForPaths 12 = .ok (.putfield 124, 3) := by decide +kernel
theorem d_Se_lookForPaths_15 : decode b_Se_lookForPaths 15 = .ok (.aload_n 0, 1) := by decide +kernel
theorem d_Se_lookForPaths_16 : decode b_Se_lookForPaths 16 = .ok (.iconst 0, 1) := by decide +kernel
theorem d_Se_lookForPaths_17 : decode b_Se_lookForPaths 17 = .ok (.putfield 177, 3) := by decide +kernel
theorem d_Se_lookForPaths_20 : decode b_Se_lookForPaths 20 = .ok (.iconst 0, 1) := by decide +kernel
theorem d_Se_lookForPaths_21 : decode b_Se_lookForPaths 21 = .ok (.istore_n 1, 1) := by decide +kernel
theorem d_Se_lookForPaths_22 : decode b_Se_lookForPaths 22 = .ok (.iload_n 1, 1) := by decide +kernel
theorem d_Se_lookForPaths_23 : decode b_Se_lookForPaths 23 = .ok (.aload_n 0, 1) := by decide +kernel
theorem d_Se_lookForPaths_24 : decode b_Se_lookForPaths 24 = .ok (.getfield 27, 3) := by decide +kernel
theorem d_Se_lookForPaths_27 : decode b_Se_lookForPaths 27 = .ok (.getfield 93, 3) := by decide +kernel
theorem d_Se_lookForPaths_30 : decode b_Se_lookForPaths 30 = .ok (.if_icmp .ge 91, 3) := by decide +kernel
theorem d_Se_lookForPaths_33 : decode b_Se_lookForPaths 33 = .ok (.aload_n 0, 1) := by decide +kernel
theorem d_Se_lookForPaths_34 : decode b_Se_lookForPaths 34 = .ok (.getfield 111, 3) := by decide +kernel
theorem d_Se_lookForPaths_37 : decode b_Se_lookForPaths 37 = .ok (.iload_n 1, 1) := by decide +kernel
theorem d_Se_lookForPaths_38 : decode b_Se_lookForPaths 38 = .ok (.invokestatic 83, 3) := by decide +kernel
theorem d_Se_lookForPaths_41 : decode b_Se_lookForPaths 41 = .ok (.ifCond .ne 6, 3) := by decide +kernel
theorem d_Se_lookForPaths_44 : decode b_Se_lookForPaths 44 = .ok (.goto 71, 3) := by decide +kernel
theorem d_Se_lookForPaths_47 : decode b_Se_lookForPaths 47 = .ok (.aload_n 0, 1) := by decide +kernel
theorem d_Se_lookForPaths_48 : decode b_Se_lookForPaths 48 = .ok (.getfield 18, 3) := by decide +kernel
theorem d_Se_lookForPaths_51 : decode b_Se_lookForPaths 51 = .ok (.iload_n 1, 1) := by decide +kernel
theorem d_Se_lookForPaths_52 : decode b_Se_lookForPaths 52 = .ok (.iaload, 1) := by decide +kernel
theorem d_Se_lookForPaths_53 : decode b_Se_lookForPaths 53 = .ok (.aload_n 0, 1) := by decide +kernel
theorem d_Se_lookForPaths_54 : decode b_Se_lookForPaths 54 = .ok (.getfield 101, 3) := by decide +kernel
theorem d_Se_lookForPaths_57 : decode b_Se_lookForPaths 57 = .ok (.iconst (-1), 1) := by decide +kernel
theorem d_Se_lookForPaths_58 : decode b_Se_lookForPaths 58 = .ok (.ixor, 1) := by decide +kernel
theorem d_Se_lookForPaths_59 : decode b_Se_lookForPaths 59 = .ok (.iand, 1) := by decide +kernel
theorem d_Se_lookForPaths_60 : decode b_Se_lookForPaths 60 = .ok (.istore_n 2, 1) := by decide +kernel
theorem d_Se_lookForPaths_61 : decode b_Se_lookForPaths 61 = .ok (.aload_n 0, 1) := by decide +kernel
theorem d_Se_lookForPaths_62 : decode b_Se_lookForPaths 62 = .ok (.iload_n 1, 1) := by decide +kernel
theorem d_Se_lookForPaths_63 : decode b_Se_lookForPaths 63 = .ok (.iload_n 2, 1) := by decide +kernel
theorem d_Se_lookForPaths_64 : decode b_Se_lookForPaths 64 = .ok (.aload_n 0, 1) := by decide +kernel
theorem d_Se_lookForPaths_65 : decode b_Se_lookForPaths 65 = .ok (.getfield 174, 3) := by decide +kernel
theorem d_Se_lookForPaths_68 : decode b_Se_lookForPaths 68 = .ok (.iconst (-1), 1) := by decide +kernel
theorem d_Se_lookForPaths_69 : decode b_Se_lookForPaths 69 = .ok (.ixor, 1) := by decide +kernel
theorem d_Se_lookForPaths_70 : decode b_Se_lookForPaths 70 = .ok (.iand, 1) := by decide +kernel
theorem d_Se_lookForPaths_71 : decode b_Se_lookForPaths 71 = .ok (.invokevirtual 180, 3) := by decide +kernel
theorem d_Se_lookForPaths_74 : decode b_Se_lookForPaths 74 = .ok (.ifCond .eq 19, 3) := by decide +kernel
theorem d_Se_lookForPaths_77 : decode b_Se_lookForPaths 77 = .ok (.aload_n 0, 1) := by decide +kernel
theorem d_Se_lookForPaths_78 : decode b_Se_lookForPaths 78 = .ok (.dup, 1) := by decide +kernel
theorem d_Se_lookForPaths_79 : decode b_Se_lookForPaths 79 = .ok (.getfield 124, 3) := by decide +kernel
theorem d_Se_lookForPaths_82 : decode b_Se_lookForPaths 82 = .ok (.iload_n 1, 1) := by decide +kernel
theorem d_Se_lookForPaths_83 : decode b_Se_lookForPaths 83 = .ok (.invokestatic 131, 3) := by decide +kernel
theorem d_Se_lookForPaths_86 : decode b_Se_lookForPaths 86 = .ok (.ior, 1) := by decide +kernel
theorem d_Se_lookForPaths_87 : decode b_Se_lookForPaths 87 = .ok (.putfield 124, 3) := by decide +kernel
theorem d_Se_lookForPaths_90 : decode b_Se_lookForPaths 90 = .ok (.goto 25, 3) := by decide +kernel
theorem d_Se_lookForPaths_93 : decode b_Se_lookForPaths 93 = .ok (.aload_n 0, 1) := by decide +kernel
theorem d_Se_lookForPaths_94 : decode b_Se_lookForPaths 94 = .ok (.iload_n 1, 1) := by decide +kernel
theorem d_Se_lookForPaths_95 : decode b_Se_lookForPaths 95 = .ok (.iload_n 2, 1) := by decide +kernel
theorem d_Se_lookForPaths_96 : decode b_Se_lookForPaths 96 = .ok (.invokevirtual 180, 3) := by decide +kernel
theorem d_Se_lookForPaths_99 : decode b_Se_lookForPaths 99 = .ok (.ifCond .eq 16, 3) := by decide +kernel
theorem d_Se_lookForPaths_102 : decode b_Se_lookForPaths 102 = .ok (.aload_n 0, 1) := by decide +kernel
theorem d_Se_lookForPaths_103 : decode b_Se_lookForPaths 103 = .ok (.dup, 1) := by decide +kernel
theorem d_Se_lookForPaths_104 : decode b_Se_lookForPaths 104 = .ok (.getfield 177, 3) := by decide +kernel
theorem d_Se_lookForPaths_107 : decode b_Se_lookForPaths 107 = .ok (.iload_n 1, 1) := by decide +kernel
theorem d_Se_lookForPaths_108 : decode b_Se_lookForPaths 108 = .ok (.invokestatic 131, 3) := by decide +kernel
theorem d_Se_lookForPaths_111 : decode b_Se_lookForPaths 111 = .ok (.ior, 1) := by decide +kernel
theorem d_Se_lookForPaths_112 : decode b_Se_lookForPaths 112 = .ok (.putfield 177, 3) := by decide +kernel
theorem d_Se_lookForPaths_115 : decode b_Se_lookForPaths 115 = .ok (.iinc 1 1, 3) := by decide +kernel
theorem d_Se_lookForPaths_118 : decode b_Se_lookForPaths 118 = .ok (.goto (-96), 3) := by decide +kernel
theorem d_Se_lookForPaths_121 : decode b_Se_lookForPaths 121 = .ok (.return_, 1) := by decide +kernel
theorem wd_107 : (Cond.fieldLink "SheetWar$Settling" (111 : Nat) "SheetWar$Settling" "seaMoves" "I") ∈ TB := tb_t 107 (by decide +kernel) (by decide +kernel)
theorem wd_539 : (Cond.code ({ cls := "SheetWar$Settling", name := "isChain", desc := "(II)Z" } : MethodName) prog_4_method_18_code (6 : Nat) (Option.some FieldType.boolean)) ∈ TB := tb_t 539 (by decide +kernel) (by decide +kernel)
theorem wd_536 : (Cond.methodLink "SheetWar$Settling" (180 : Nat) ({ cls := "SheetWar$Settling", name := "isChain", desc := "(II)Z" } : MethodName)) ∈ TB := tb_t 536 (by decide +kernel) (by decide +kernel)
theorem wd_538 : (Cond.instanceMethod ({ cls := "SheetWar$Settling", name := "isChain", desc := "(II)Z" } : MethodName)) ∈ TB := tb_t 538 (by decide +kernel) (by decide +kernel)
theorem wp_12 : Cond.selects "SheetWar$Settling" ⟨"SheetWar$Settling", "isChain", "(II)Z"⟩ ⟨"SheetWar$Settling", "isChain", "(II)Z"⟩ ∈ TB := tb_p 12 (by decide +kernel) (by decide +kernel)
set_option maxHeartbeats 4000000 in
set_option maxRecDepth 100000 in
theorem c_Se_lookForPaths (l : Launch) (D : va_G) (cI cZ cJ cS : ClassId) (aT : Nat) (ceT : Cell) (sz : Nat) (h0 qm qs q1 q2 q3 q4 q5 : Nat) (St Mv Sm Ho Su Op Sd Od Sp Oq : Nat → Bool) (qh qn n : Nat) (S Ce : Nat → Bool) (N Ca : Nat → Nat → Bool) (tn : Int32) (qu qo qx qy qr qw : Nat) (X : Nat → Nat) (hX12 : ∀ j, X j < 12) (hn : n ≤ 12) : Met l y_Se_lookForPaths w_Se_lookForPaths ({ frames := 2, cells := 0, slots := 0, locals := 46 }) (tH D cI cZ cJ cS aT ceT [.ref h0] sz [(h0, .inr (2, [.ref qm, .ref qs, .int (mI St), .int (mI Mv), .int (mI Sm), .int (mI Ho), .ref q1, .ref q2, .ref q3, .ref q4, .int (mI Su), .int (mI Op), .int (mI Sd), .int (mI Od), .int (mI Sp), .int (mI Oq), .ref q5])), (qm, .inr (4, [.int (nI n), .int (mI S), .int (mI Ce), .ref qh, .ref qn])), (qn, .inl (cI, 12, .inl (fun j => mI (N j)))), (q3, .inl (cI, 12, .inl (fun j => mI (Ca j)))), (qs, .inr (3, [.int tn, .ref qu, .ref qo, .ref qx, .ref qy, .ref qr, .ref qw])), (qx, .inl (cI, 12, .inl (fun j => nI (X j))))]) (va_Qv (fun _ : Unit => True) (fun _ t => tB D (va_A [(h0, .inr (2, [.ref qm, .ref qs, .int (mI St), .int (mI Mv), .int (mI Sm), .int (mI Ho), .ref q1, .ref q2, .ref q3, .ref q4, .int (mI Su), .int (mI Op), .int (mI Sd), .int (mI Od), .int (mI Sp), .int (mI Oq), .ref q5])), (qm, .inr (4, [.int (nI n), .int (mI S), .int (mI Ce), .ref qh, .ref qn])), (qn, .inl (cI, 12, .inl (fun j => mI (N j)))), (q3, .inl (cI, 12, .inl (fun j => mI (Ca j)))), (qs, .inr (3, [.int tn, .ref qu, .ref qo, .ref qx, .ref qy, .ref qr, .ref qw])), (qx, .inl (cI, 12, .inl (fun j => nI (X j))))] sz) [(h0, .inr (2, [.ref qm, .ref qs, .int (mI St), .int (mI Mv), .int (mI Sm), .int (mI Ho), .ref q1, .ref q2, .ref q3, .ref q4, .int (mI Su), .int (mI Op), .int (mI Sd), .int (mI Od), .int (mI (spU Mv Sm (spP N Ca X Sm Sd Od n) n)), .int (mI (upTo (oqP N Ca X Sm Sd Od n) n)), .ref q5])), (qm, .inr (4, [.int (nI n), .int (mI S), .int (mI Ce), .ref qh, .ref qn])), (qn, .inl (cI, 12, .inl (fun j => mI (N j)))), (q3, .inl (cI, 12, .inl (fun j => mI (Ca j)))), (qs, .inr (3, [.int tn, .ref qu, .ref qo, .ref qx, .ref qy, .ref qr, .ref qw])), (qx, .inl (cI, 12, .inl (fun j => nI (X j))))] t) (va_A [(h0, .inr (2, [.ref qm, .ref qs, .int (mI St), .int (mI Mv), .int (mI Sm), .int (mI Ho), .ref q1, .ref q2, .ref q3, .ref q4, .int (mI Su), .int (mI Op), .int (mI Sd), .int (mI Od), .int (mI Sp), .int (mI Oq), .ref q5])), (qm, .inr (4, [.int (nI n), .int (mI S), .int (mI Ce), .ref qh, .ref qn])), (qn, .inl (cI, 12, .inl (fun j => mI (N j)))), (q3, .inl (cI, 12, .inl (fun j => mI (Ca j)))), (qs, .inr (3, [.int tn, .ref qu, .ref qo, .ref qx, .ref qy, .ref qr, .ref qw])), (qx, .inl (cI, 12, .inl (fun j => nI (X j))))] sz)) 0 0 (va_A [(h0, .inr (2, [.ref qm, .ref qs, .int (mI St), .int (mI Mv), .int (mI Sm), .int (mI Ho), .ref q1, .ref q2, .ref q3, .ref q4, .int (mI Su), .int (mI Op), .int (mI Sd), .int (mI Od), .int (mI Sp), .int (mI Oq), .ref q5])), (qm, .inr (4, [.int (nI n), .int (mI S), .int (mI Ce), .ref qh, .ref qn])), (qn, .inl (cI, 12, .inl (fun j => mI (N j)))), (q3, .inl (cI, 12, .inl (fun j => mI (Ca j)))), (qs, .inr (3, [.int tn, .ref qu, .ref qo, .ref qx, .ref qy, .ref qr, .ref qw])), (qx, .inl (cI, 12, .inl (fun j => nI (X j))))] sz) := by
  refine Met.ofW (cc := b_Se_lookForPaths) (maxL := 3) (ret := none) (by decide) rfl ?_
  intro p e s m args below meth c s₁ B hml hv
  obtain ⟨rfl, hsz, hP, hK, hD0, hX⟩ := hv
  have hx := B.exec
  have hb := B.bytes
  have hr := B.returns
  have hts0 := atoms_spec (ws := w_Se_lookForPaths) B.pre
  have hts : ∀ w ∈ TB, w.before _ s = true := fun w h => hts0 w (List.mem_cons_of_mem _ h)
  have hown : s.vm.findClass R_Se = some m.cls := findClass_of_methodNamed B.named
  have hlocks := B.notSynchronized
  subst hsz
  have hXl := tx_lt hX
  have hXn := tx_far hP hX
  have hD := hD0.self (sz := s.heap.size)
  generalize hAe : va_A [(h0, .inr (2, [.ref qm, .ref qs, .int (mI St), .int (mI Mv), .int (mI Sm), .int (mI Ho), .ref q1, .ref q2, .ref q3, .ref q4, .int (mI Su), .int (mI Op), .int (mI Sd), .int (mI Od), .int (mI Sp), .int (mI Oq), .ref q5])), (qm, .inr (4, [.int (nI n), .int (mI S), .int (mI Ce), .ref qh, .ref qn])), (qn, .inl (cI, 12, .inl (fun j => mI (N j)))), (q3, .inl (cI, 12, .inl (fun j => mI (Ca j)))), (qs, .inr (3, [.int tn, .ref qu, .ref qo, .ref qx, .ref qy, .ref qr, .ref qw])), (qx, .inl (cI, 12, .inl (fun j => nI (X j))))] s.heap.size = A at hD hXn ⊢
  have hA : ∀ q : Nat, s.heap.size ≤ q → A q := fun q h => by rw [← hAe]; exact Or.inr h
  have hS : va_S A s.heap s.heap [] := va_S.rf
  have hXH : s.heap[aT]? = s.heap[aT]? := rfl
  have hl := lv_entry ([.ref h0]) (n := 3) (Nat.le_of_ble_eq_true rfl)
  rw [lg_entry_eq]
  generalize (lg_sl ([.ref h0]) ++ List.replicate (3 - (lg_sl ([.ref h0])).length) Slot.unset).toArray = ls at hl ⊢
  have hl : lv_has ls 3 [(0, .ref h0)] := hl
  refine lv_aload_n hx hb d_Se_lookForPaths_0 rfl (lv_at hl 0 rfl) ?_
  refine lv_aload_n hx hb d_Se_lookForPaths_1 rfl (lv_at hl 0 rfl) ?_
  refine va_get (D := D) (ci := 2) (v := .int (mI Mv)) (C := R_Se) (T := T_Se) (N := 17) hx hb hts hin_Se hown hK hP 0 rfl rfl 3 (by decide) (hts _ wd_106) (fun _ h9 => h9) rfl d_Se_lookForPaths_2 ?_
  refine lv_aload_n hx hb d_Se_lookForPaths_5 rfl (lv_at hl 0 rfl) ?_
  refine va_get (D := D) (ci := 2) (v := .int (mI Sm)) (C := R_Se) (T := T_Se) (N := 17) hx hb hts hin_Se hown hK hP 0 rfl rfl 4 (by decide) (hts _ wd_107) (fun _ h9 => h9) rfl d_Se_lookForPaths_6 ?_
  refine lv_iconst (v := (-1)) hx hb d_Se_lookForPaths_9 (by decide) ?_
  refine lv_ixor hx hb d_Se_lookForPaths_10 ?_
  refine lv_iand hx hb d_Se_lookForPaths_11 ?_
  refine tr_top (y := mI (fun j => Mv j && !(Sm j))) (mI_diff _ _) ?_
  refine tr_top (y := mI (spU Mv Sm (spP N Ca X Sm Sd Od n) 0)) (mI_sp0 _ _ _) ?_
  refine va_put (D := D) (ci := 2) (v := .int (mI (spU Mv Sm (spP N Ca X Sm Sd Od n) 0))) (ty := .int) (C := R_Se) (T := T_Se) (N := 17) hx hb hts hin_Se ty_Se tyok_Se nm_Se hown hK hP hD hS 0 rfl rfl 14 (by decide) (hts _ wd_117) (fun _ h9 => h9) rfl (by decide +kernel) rfl rfl (Nat.le_of_ble_eq_true rfl) d_Se_lookForPaths_12 (fun H locs hP hD hS => ?_)
  have hP : va_P D vwCl [(h0, .inr (2, [.ref qm, .ref qs, .int (mI St), .int (mI Mv), .int (mI Sm), .int (mI Ho), .ref q1, .ref q2, .ref q3, .ref q4, .int (mI Su), .int (mI Op), .int (mI Sd), .int (mI Od), .int (mI (spU Mv Sm (spP N Ca X Sm Sd Od n) 0)), .int (mI Oq), .ref q5])), (qm, .inr (4, [.int (nI n), .int (mI S), .int (mI Ce), .ref qh, .ref qn])), (qn, .inl (cI, 12, .inl (fun j => mI (N j)))), (q3, .inl (cI, 12, .inl (fun j => mI (Ca j)))), (qs, .inr (3, [.int tn, .ref qu, .ref qo, .ref qx, .ref qy, .ref qr, .ref qw])), (qx, .inl (cI, 12, .inl (fun j => nI (X j))))] H := hP
  have hD : va_D A [(h0, .inr (2, [.ref qm, .ref qs, .int (mI St), .int (mI Mv), .int (mI Sm), .int (mI Ho), .ref q1, .ref q2, .ref q3, .ref q4, .int (mI Su), .int (mI Op), .int (mI Sd), .int (mI Od), .int (mI (spU Mv Sm (spP N Ca X Sm Sd Od n) 0)), .int (mI Oq), .ref q5])), (qm, .inr (4, [.int (nI n), .int (mI S), .int (mI Ce), .ref qh, .ref qn])), (qn, .inl (cI, 12, .inl (fun j => mI (N j)))), (q3, .inl (cI, 12, .inl (fun j => mI (Ca j)))), (qs, .inr (3, [.int tn, .ref qu, .ref qo, .ref qx, .ref qy, .ref qr, .ref qw])), (qx, .inl (cI, 12, .inl (fun j => nI (X j))))] := hD
  refine lv_aload_n hx hb d_Se_lookForPaths_15 rfl (lv_at hl 0 rfl) ?_
  refine lv_iconst (v := 0) hx hb d_Se_lookForPaths_16 (by decide) ?_
  refine tr_top (y := mI (upTo (oqP N Ca X Sm Sd Od n) 0)) (mI_up0 _) ?_
  refine va_put (D := D) (ci := 2) (v := .int (mI (upTo (oqP N Ca X Sm Sd Od n) 0))) (ty := .int) (C := R_Se) (T := T_Se) (N := 17) hx hb hts hin_Se ty_Se tyok_Se nm_Se hown hK hP hD hS 0 rfl rfl 15 (by decide) (hts _ wd_118) (fun _ h9 => h9) rfl (by decide +kernel) rfl rfl (Nat.le_of_ble_eq_true rfl) d_Se_lookForPaths_17 (fun H locs hP hD hS => ?_)
  have hP : va_P D vwCl [(h0, .inr (2, [.ref qm, .ref qs, .int (mI St), .int (mI Mv), .int (mI Sm), .int (mI Ho), .ref q1, .ref q2, .ref q3, .ref q4, .int (mI Su), .int (mI Op), .int (mI Sd), .int (mI Od), .int (mI (spU Mv Sm (spP N Ca X Sm Sd Od n) 0)), .int (mI (upTo (oqP N Ca X Sm Sd Od n) 0)), .ref q5])), (qm, .inr (4, [.int (nI n), .int (mI S), .int (mI Ce), .ref qh, .ref qn])), (qn, .inl (cI, 12, .inl (fun j => mI (N j)))), (q3, .inl (cI, 12, .inl (fun j => mI (Ca j)))), (qs, .inr (3, [.int tn, .ref qu, .ref qo, .ref qx, .ref qy, .ref qr, .ref qw])), (qx, .inl (cI, 12, .inl (fun j => nI (X j))))] H := hP
  have hD : va_D A [(h0, .inr (2, [.ref qm, .ref qs, .int (mI St), .int (mI Mv), .int (mI Sm), .int (mI Ho), .ref q1, .ref q2, .ref q3, .ref q4, .int (mI Su), .int (mI Op), .int (mI Sd), .int (mI Od), .int (mI (spU Mv Sm (spP N Ca X Sm Sd Od n) 0)), .int (mI (upTo (oqP N Ca X Sm Sd Od n) 0)), .ref q5])), (qm, .inr (4, [.int (nI n), .int (mI S), .int (mI Ce), .ref qh, .ref qn])), (qn, .inl (cI, 12, .inl (fun j => mI (N j)))), (q3, .inl (cI, 12, .inl (fun j => mI (Ca j)))), (qs, .inr (3, [.int tn, .ref qu, .ref qo, .ref qx, .ref qy, .ref qr, .ref qw])), (qx, .inl (cI, 12, .inl (fun j => nI (X j))))] := hD
  refine lv_iconst (v := 0) hx hb d_Se_lookForPaths_20 (by decide) ?_
  refine lv_istore_n (lv' := [(1, .int 0), (0, .ref h0)]) hx hb d_Se_lookForPaths_21 rfl hl (by decide) rfl (fun ls hl => ?_)
  have loop : ∀ (k i : Nat) (ls : Array Slot) (H : Heap) (locs : List Loc), i + k = n → lv_has ls 3 [(1, .int (nI i)), (0, .ref h0)] → va_P D vwCl [(h0, .inr (2, [.ref qm, .ref qs, .int (mI St), .int (mI Mv), .int (mI Sm), .int (mI Ho), .ref q1, .ref q2, .ref q3, .ref q4, .int (mI Su), .int (mI Op), .int (mI Sd), .int (mI Od), .int (mI (spU Mv Sm (spP N Ca X Sm Sd Od n) i)), .int (mI (upTo (oqP N Ca X Sm Sd Od n) i)), .ref q5])), (qm, .inr (4, [.int (nI n), .int (mI S), .int (mI Ce), .ref qh, .ref qn])), (qn, .inl (cI, 12, .inl (fun j => mI (N j)))), (q3, .inl (cI, 12, .inl (fun j => mI (Ca j)))), (qs, .inr (3, [.int tn, .ref qu, .ref qo, .ref qx, .ref qy, .ref qr, .ref qw])), (qx, .inl (cI, 12, .inl (fun j => nI (X j))))] H → va_D A [(h0, .inr (2, [.ref qm, .ref qs, .int (mI St), .int (mI Mv), .int (mI Sm), .int (mI Ho), .ref q1, .ref q2, .ref q3, .ref q4, .int (mI Su), .int (mI Op), .int (mI Sd), .int (mI Od), .int (mI (spU Mv Sm (spP N Ca X Sm Sd Od n) i)), .int (mI (upTo (oqP N Ca X Sm Sd Od n) i)), .ref q5])), (qm, .inr (4, [.int (nI n), .int (mI S), .int (mI Ce), .ref qh, .ref qn])), (qn, .inl (cI, 12, .inl (fun j => mI (N j)))), (q3, .inl (cI, 12, .inl (fun j => mI (Ca j)))), (qs, .inr (3, [.int tn, .ref qu, .ref qo, .ref qx, .ref qy, .ref qr, .ref qw])), (qx, .inl (cI, 12, .inl (fun j => nI (X j))))] → va_S A s.heap H locs → W p l e (headSpec w_Se_lookForPaths ({ frames := 2, cells := 0, slots := 0, locals := 46 })).room s m ([.ref h0]).toArray below meth c H locs 0 0 (MQ below (va_Qv (fun _ : Unit => True) (fun _ t => tB D A [(h0, .inr (2, [.ref qm, .ref qs, .int (mI St), .int (mI Mv), .int (mI Sm), .int (mI Ho), .ref q1, .ref q2, .ref q3, .ref q4, .int (mI Su), .int (mI Op), .int (mI Sd), .int (mI Od), .int (mI (spU Mv Sm (spP N Ca X Sm Sd Od n) n)), .int (mI (upTo (oqP N Ca X Sm Sd Od n) n)), .ref q5])), (qm, .inr (4, [.int (nI n), .int (mI S), .int (mI Ce), .ref qh, .ref qn])), (qn, .inl (cI, 12, .inl (fun j => mI (N j)))), (q3, .inl (cI, 12, .inl (fun j => mI (Ca j)))), (qs, .inr (3, [.int tn, .ref qu, .ref qo, .ref qx, .ref qy, .ref qr, .ref qw])), (qx, .inl (cI, 12, .inl (fun j => nI (X j))))] t) A) ([.ref h0]).toArray s 0 0 A) (F0 m 22 ls []) := by
    intro k
    induction k with
    | zero =>
      intro i ls H locs hi hl hP hD hS
      have hie : i = n := by omega
      rw [hie] at hl hP hD
      refine lv_iload_n hx hb d_Se_lookForPaths_22 rfl (lv_at hl 0 rfl) ?_
      refine lv_aload_n hx hb d_Se_lookForPaths_23 rfl (lv_at hl 1 rfl) ?_
      refine va_get (D := D) (ci := 2) (v := .ref qm) (C := R_Se) (T := T_Se) (N := 17) hx hb hts hin_Se hown hK hP 0 rfl rfl 0 (by decide) (hts _ wd_103) (fun _ h9 => h9) rfl d_Se_lookForPaths_24 ?_
      refine va_get (D := D) (ci := 4) (v := .int (nI n)) (C := R_Wm) (T := T_Wm) (N := 5) hx hb hts hin_Wm hown hK hP 1 rfl rfl 0 (by decide) (hts _ wd_33) (fun _ h9 => h9) rfl d_Se_lookForPaths_27 ?_
      refine lv_icmp_ge (tgt := 121) hx hb d_Se_lookForPaths_30 (by decide) (fun _ => ?_) (fun h0 => absurd (Int32.le_refl _) h0)
      have hP9 := hP.sub (ws' := [(h0, .inr (2, [.ref qm, .ref qs, .int (mI St), .int (mI Mv), .int (mI Sm), .int (mI Ho), .ref q1, .ref q2, .ref q3, .ref q4, .int (mI Su), .int (mI Op), .int (mI Sd), .int (mI Od), .int (mI (spU Mv Sm (spP N Ca X Sm Sd Od n) n)), .int (mI (upTo (oqP N Ca X Sm Sd Od n) n)), .ref q5])), (qm, .inr (4, [.int (nI n), .int (mI S), .int (mI Ce), .ref qh, .ref qn])), (qn, .inl (cI, 12, .inl (fun j => mI (N j)))), (q3, .inl (cI, 12, .inl (fun j => mI (Ca j)))), (qs, .inr (3, [.int tn, .ref qu, .ref qo, .ref qx, .ref qy, .ref qr, .ref qw])), (qx, .inl (cI, 12, .inl (fun j => nI (X j))))]) [0, 1, 2, 3, 4, 5] rfl
      have hD9 := hD.sub (ws' := [(h0, .inr (2, [.ref qm, .ref qs, .int (mI St), .int (mI Mv), .int (mI Sm), .int (mI Ho), .ref q1, .ref q2, .ref q3, .ref q4, .int (mI Su), .int (mI Op), .int (mI Sd), .int (mI Od), .int (mI (spU Mv Sm (spP N Ca X Sm Sd Od n) n)), .int (mI (upTo (oqP N Ca X Sm Sd Od n) n)), .ref q5])), (qm, .inr (4, [.int (nI n), .int (mI S), .int (mI Ce), .ref qh, .ref qn])), (qn, .inl (cI, 12, .inl (fun j => mI (N j)))), (q3, .inl (cI, 12, .inl (fun j => mI (Ca j)))), (qs, .inr (3, [.int tn, .ref qu, .ref qo, .ref qx, .ref qy, .ref qr, .ref qw])), (qx, .inl (cI, 12, .inl (fun j => nI (X j))))]) [0, 1, 2, 3, 4, 5] (by decide) rfl
      exact W.vret hx hb hr (fun t ht hW => ⟨⟨(), rfl, trivial, by rw [ht]; exact hP9, hD9⟩, hS.F ht⟩) hS.2.2 d_Se_lookForPaths_121
    | succ k ih =>
      intro i ls H locs hi hl hP hD hS
      have hlt : i < n := by omega
      have hlt12 : i < 12 := by omega
      refine lv_iload_n hx hb d_Se_lookForPaths_22 rfl (lv_at hl 0 rfl) ?_
      refine lv_aload_n hx hb d_Se_lookForPaths_23 rfl (lv_at hl 1 rfl) ?_
      refine va_get (D := D) (ci := 2) (v := .ref qm) (C := R_Se) (T := T_Se) (N := 17) hx hb hts hin_Se hown hK hP 0 rfl rfl 0 (by decide) (hts _ wd_103) (fun _ h9 => h9) rfl d_Se_lookForPaths_24 ?_
      refine va_get (D := D) (ci := 4) (v := .int (nI n)) (C := R_Wm) (T := T_Wm) (N := 5) hx hb hts hin_Wm hown hK hP 1 rfl rfl 0 (by decide) (hts _ wd_33) (fun _ h9 => h9) rfl d_Se_lookForPaths_27 ?_
      refine lv_icmp_ge (tgt := 121) hx hb d_Se_lookForPaths_30 (by decide) (fun h0 => absurd h0 (nI_ge hlt (by omega))) (fun _ => ?_)
      refine lv_aload_n hx hb d_Se_lookForPaths_33 rfl (lv_at hl 1 rfl) ?_
      refine va_get (D := D) (ci := 2) (v := .int (mI Sm)) (C := R_Se) (T := T_Se) (N := 17) hx hb hts hin_Se hown hK hP 0 rfl rfl 4 (by decide) (hts _ wd_107) (fun _ h9 => h9) rfl d_Se_lookForPaths_34 ?_
      refine lv_iload_n hx hb d_Se_lookForPaths_37 rfl (lv_at hl 0 rfl) ?_
      have hPc := hP.sub (ws' := []) [] rfl
      refine vp_callSi (va_Run.run (va_runSN (As := [.int (mI Sm), .int (nI i)]) (rest := []) ⟨hx, hb, hml, hown, hts⟩ (c_Sw_in l D cI cZ cJ cS aT ceT  Sm i hlt12) (⟨va_cnB 2 hts (tb_c wd_285) rfl rfl rfl hX.2.2.2.2.2.2.2.1 (hts _ wd_1) ⟨by decide, by decide, by decide +kernel⟩ ⟨Nat.le_of_ble_eq_true rfl, Nat.le_of_ble_eq_true rfl⟩, hts _ wd_284, trivial⟩) (tP_S hK hX (hS.2.1 aT hXl hXn) hPc) rfl rfl hl.1 rfl (lv_room (Nat.le_of_ble_eq_true rfl)) d_Se_lookForPaths_38 ⟨Nat.le_of_ble_eq_true rfl, Nat.le_of_ble_eq_true rfl⟩)) (fun r3 hr9 => ?_)
      rw [hr9]
      rcases bI_c (Sm i) with ⟨hb5, e9⟩ | ⟨hb5, e9⟩
      · refine tr_top e9 ?_
        refine lv_if_ne (tgt := 47) hx hb d_Se_lookForPaths_41 (by decide) (fun _ => ?_) (fun h0 => absurd h0 (by decide))
        refine lv_aload_n hx hb d_Se_lookForPaths_47 rfl (lv_at hl 1 rfl) ?_
        refine va_get (D := D) (ci := 2) (v := .ref q3) (C := R_Se) (T := T_Se) (N := 17) hx hb hts hin_Se hown hK hP 0 rfl rfl 8 (by decide) (hts _ wd_111) (fun _ h9 => h9) rfl d_Se_lookForPaths_48 ?_
        refine lv_iload_n hx hb d_Se_lookForPaths_51 rfl (lv_at hl 0 rfl) ?_
        refine tr_iald (v := mI (Ca i)) hx hb hK hP 3 0 rfl rfl i hlt12 (by decide) rfl d_Se_lookForPaths_52 ?_
        refine lv_aload_n hx hb d_Se_lookForPaths_53 rfl (lv_at hl 1 rfl) ?_
        refine va_get (D := D) (ci := 2) (v := .int (mI Sd)) (C := R_Se) (T := T_Se) (N := 17) hx hb hts hin_Se hown hK hP 0 rfl rfl 12 (by decide) (hts _ wd_115) (fun _ h9 => h9) rfl d_Se_lookForPaths_54 ?_
        refine lv_iconst (v := (-1)) hx hb d_Se_lookForPaths_57 (by decide) ?_
        refine lv_ixor hx hb d_Se_lookForPaths_58 ?_
        refine lv_iand hx hb d_Se_lookForPaths_59 ?_
        refine tr_top (y := mI (fun j => Ca i j && !(Sd j))) (mI_diff _ _) ?_
        refine lv_istore_n (lv' := [(2, .int (mI (fun j => Ca i j && !(Sd j)))), (1, .int (nI i)), (0, .ref h0)]) hx hb d_Se_lookForPaths_60 rfl hl (by decide) rfl (fun ls hl => ?_)
        refine lv_aload_n hx hb d_Se_lookForPaths_61 rfl (lv_at hl 2 rfl) ?_
        refine lv_iload_n hx hb d_Se_lookForPaths_62 rfl (lv_at hl 1 rfl) ?_
        refine lv_iload_n hx hb d_Se_lookForPaths_63 rfl (lv_at hl 0 rfl) ?_
        refine lv_aload_n hx hb d_Se_lookForPaths_64 rfl (lv_at hl 2 rfl) ?_
        refine va_get (D := D) (ci := 2) (v := .int (mI Od)) (C := R_Se) (T := T_Se) (N := 17) hx hb hts hin_Se hown hK hP 0 rfl rfl 13 (by decide) (hts _ wd_116) (fun _ h9 => h9) rfl d_Se_lookForPaths_65 ?_
        refine lv_iconst (v := (-1)) hx hb d_Se_lookForPaths_68 (by decide) ?_
        refine lv_ixor hx hb d_Se_lookForPaths_69 ?_
        refine lv_iand hx hb d_Se_lookForPaths_70 ?_
        refine tr_top (y := mI (fun j => (Ca i j && !(Sd j)) && !(Od j))) (mI_diff _ _) ?_
        have hPc := hP.sub (ws' := [(h0, .inr (2, [.ref qm, .ref qs, .int (mI St), .int (mI Mv), .int (mI Sm), .int (mI Ho), .ref q1, .ref q2, .ref q3, .ref q4, .int (mI Su), .int (mI Op), .int (mI Sd), .int (mI Od), .int (mI (spU Mv Sm (spP N Ca X Sm Sd Od n) i)), .int (mI (upTo (oqP N Ca X Sm Sd Od n) i)), .ref q5])), (qm, .inr (4, [.int (nI n), .int (mI S), .int (mI Ce), .ref qh, .ref qn])), (qn, .inl (cI, 12, .inl (fun j => mI (N j)))), (qs, .inr (3, [.int tn, .ref qu, .ref qo, .ref qx, .ref qy, .ref qr, .ref qw])), (qx, .inl (cI, 12, .inl (fun j => nI (X j))))]) [0, 1, 2, 4, 5] rfl
        refine vp_callSi (va_Run.run (va_runV (As := [.int (nI i), .int (mI (fun j => (Ca i j && !(Sd j)) && !(Od j)))]) (rest := []) ⟨hx, hb, hml, hown, hts⟩ (c_Se_isChain l D cI cZ cJ cS aT ceT  h0 qm qs q1 q2 q3 q4 q5 St Mv Sm Ho Su Op Sd Od (spU Mv Sm (spP N Ca X Sm Sd Od n) i) (upTo (oqP N Ca X Sm Sd Od n) i) qh qn n S Ce N tn qu qo qx qy qr qw X (fun j => (Ca i j && !(Sd j)) && !(Od j)) i hX12 hn hlt12) (cwV 2 hts (tb_4 wd_536 wd_538 wp_12 wd_5 (tb_c wd_539)) rfl rfl rfl ⟨rfl, by decide, by decide, by decide +kernel⟩ ⟨Nat.le_of_ble_eq_true rfl, Nat.le_of_ble_eq_true rfl⟩) (tP_V hK hX (hS.2.1 aT hXl hXn) hPc (q := 0) rfl rfl) rfl rfl hl.1 rfl (lv_room (Nat.le_of_ble_eq_true rfl)) d_Se_lookForPaths_71 ⟨Nat.le_of_ble_eq_true rfl, Nat.le_of_ble_eq_true rfl⟩)) (fun r7 hr9 => ?_)
        rw [hr9]
        rcases bI_c (chnC N X n (fun j => (Ca i j && !(Sd j)) && !(Od j)) i) with ⟨hb9, e9⟩ | ⟨hb9, e9⟩
        · refine tr_top e9 ?_
          refine lv_if_eq (tgt := 93) hx hb d_Se_lookForPaths_74 (by decide) (fun h0 => absurd h0 (by decide)) (fun _ => ?_)
          refine lv_aload_n hx hb d_Se_lookForPaths_77 rfl (lv_at hl 2 rfl) ?_
          refine lv_dup hx hb d_Se_lookForPaths_78 rfl ?_
          refine va_get (D := D) (ci := 2) (v := .int (mI (spU Mv Sm (spP N Ca X Sm Sd Od n) i))) (C := R_Se) (T := T_Se) (N := 17) hx hb hts hin_Se hown hK hP 0 rfl rfl 14 (by decide) (hts _ wd_117) (fun _ h9 => h9) rfl d_Se_lookForPaths_79 ?_
          refine lv_iload_n hx hb d_Se_lookForPaths_82 rfl (lv_at hl 1 rfl) ?_
          have hPc := hP.sub (ws' := []) [] rfl
          refine vp_callSi (va_Run.run (va_runSN (As := [.int (nI i)]) (rest := [.int (mI (spU Mv Sm (spP N Ca X Sm Sd Od n) i)), .ref h0]) ⟨hx, hb, hml, hown, hts⟩ (c_Sw_bitN l D cI cZ cJ cS aT ceT  i hlt12) (⟨va_cnB 1 hts (tb_c wd_411) rfl rfl rfl hX.2.2.2.2.2.2.2.2.1 (hts _ wd_1) ⟨by decide, by decide, by decide +kernel⟩ ⟨Nat.le_of_ble_eq_true rfl, Nat.le_of_ble_eq_true rfl⟩, hts _ wd_410, trivial⟩) (tP_S hK hX (hS.2.1 aT hXl hXn) hPc) rfl rfl hl.1 rfl (lv_room (Nat.le_of_ble_eq_true rfl)) d_Se_lookForPaths_83 ⟨Nat.le_of_ble_eq_true rfl, Nat.le_of_ble_eq_true rfl⟩)) (fun r11 hr9 => ?_)
          rw [hr9]
          refine lv_ior hx hb d_Se_lookForPaths_86 ?_
          refine tr_top (y := mI (fun j => spU Mv Sm (spP N Ca X Sm Sd Od n) i j || decide (j = i))) (mI_or _ _) ?_
          refine va_put (D := D) (ci := 2) (v := .int (mI (fun j => spU Mv Sm (spP N Ca X Sm Sd Od n) i j || decide (j = i)))) (ty := .int) (C := R_Se) (T := T_Se) (N := 17) hx hb hts hin_Se ty_Se tyok_Se nm_Se hown hK hP hD hS 0 rfl rfl 14 (by decide) (hts _ wd_117) (fun _ h9 => h9) rfl (by decide +kernel) rfl rfl (Nat.le_of_ble_eq_true rfl) d_Se_lookForPaths_87 (fun H locs hP hD hS => ?_)
          have hP : va_P D vwCl [(h0, .inr (2, [.ref qm, .ref qs, .int (mI St), .int (mI Mv), .int (mI Sm), .int (mI Ho), .ref q1, .ref q2, .ref q3, .ref q4, .int (mI Su), .int (mI Op), .int (mI Sd), .int (mI Od), .int (mI (fun j => spU Mv Sm (spP N Ca X Sm Sd Od n) i j || decide (j = i))), .int (mI (upTo (oqP N Ca X Sm Sd Od n) i)), .ref q5])), (qm, .inr (4, [.int (nI n), .int (mI S), .int (mI Ce), .ref qh, .ref qn])), (qn, .inl (cI, 12, .inl (fun j => mI (N j)))), (q3, .inl (cI, 12, .inl (fun j => mI (Ca j)))), (qs, .inr (3, [.int tn, .ref qu, .ref qo, .ref qx, .ref qy, .ref qr, .ref qw])), (qx, .inl (cI, 12, .inl (fun j => nI (X j))))] H := hP
          have hD : va_D A [(h0, .inr (2, [.ref qm, .ref qs, .int (mI St), .int (mI Mv), .int (mI Sm), .int (mI Ho), .ref q1, .ref q2, .ref q3, .ref q4, .int (mI Su), .int (mI Op), .int (mI Sd), .int (mI Od), .int (mI (fun j => spU Mv Sm (spP N Ca X Sm Sd Od n) i j || decide (j = i))), .int (mI (upTo (oqP N Ca X Sm Sd Od n) i)), .ref q5])), (qm, .inr (4, [.int (nI n), .int (mI S), .int (mI Ce), .ref qh, .ref qn])), (qn, .inl (cI, 12, .inl (fun j => mI (N j)))), (q3, .inl (cI, 12, .inl (fun j => mI (Ca j)))), (qs, .inr (3, [.int tn, .ref qu, .ref qo, .ref qx, .ref qy, .ref qr, .ref qw])), (qx, .inl (cI, 12, .inl (fun j => nI (X j))))] := hD
          refine lv_goto (tgt := 115) hx hb d_Se_lookForPaths_90 (by decide) ?_
          refine lv_iinc (lv' := [(1, .int ((nI i) + 1)), (2, .int (mI (fun j => Ca i j && !(Sd j)))), (0, .ref h0)]) hx hb d_Se_lookForPaths_115 hl (k := 1) rfl rfl (by decide) rfl (fun ls hl => ?_)
          refine lv_goto (tgt := 22) hx hb d_Se_lookForPaths_118 (by decide) ?_
          have e12 : (nI i) + 1 = nI (i + 1) := nI_1 i
          have eo13 : mI (fun j => spU Mv Sm (spP N Ca X Sm Sd Od n) i j || decide (j = i)) = mI (spU Mv Sm (spP N Ca X Sm Sd Od n) (i + 1)) := mI_spY (show (spP N Ca X Sm Sd Od n) i = true by simp only [spP, hb5, hb9]; simp)
          have eo14 : mI (upTo (oqP N Ca X Sm Sd Od n) i) = mI (upTo (oqP N Ca X Sm Sd Od n) (i + 1)) := mI_upN (show (oqP N Ca X Sm Sd Od n) i = false by simp only [oqP, hb5, hb9]; simp)
          exact ih (i + 1) ls H locs (by omega) (by rw [← e12]; exact lv_sub hl [0, 2] rfl) (by rw [← eo13, ← eo14]; exact hP) (by rw [← eo13, ← eo14]; exact hD) hS
        · refine tr_top e9 ?_
          refine lv_if_eq (tgt := 93) hx hb d_Se_lookForPaths_74 (by decide) (fun _ => ?_) (fun h0 => absurd (by decide) h0)
          refine lv_aload_n hx hb d_Se_lookForPaths_93 rfl (lv_at hl 2 rfl) ?_
          refine lv_iload_n hx hb d_Se_lookForPaths_94 rfl (lv_at hl 1 rfl) ?_
          refine lv_iload_n hx hb d_Se_lookForPaths_95 rfl (lv_at hl 0 rfl) ?_
          have hPc := hP.sub (ws' := [(h0, .inr (2, [.ref qm, .ref qs, .int (mI St), .int (mI Mv), .int (mI Sm), .int (mI Ho), .ref q1, .ref q2, .ref q3, .ref q4, .int (mI Su), .int (mI Op), .int (mI Sd), .int (mI Od), .int (mI (spU Mv Sm (spP N Ca X Sm Sd Od n) i)), .int (mI (upTo (oqP N Ca X Sm Sd Od n) i)), .ref q5])), (qm, .inr (4, [.int (nI n), .int (mI S), .int (mI Ce), .ref qh, .ref qn])), (qn, .inl (cI, 12, .inl (fun j => mI (N j)))), (qs, .inr (3, [.int tn, .ref qu, .ref qo, .ref qx, .ref qy, .ref qr, .ref qw])), (qx, .inl (cI, 12, .inl (fun j => nI (X j))))]) [0, 1, 2, 4, 5] rfl
          refine vp_callSi (va_Run.run (va_runV (As := [.int (nI i), .int (mI (fun j => Ca i j && !(Sd j)))]) (rest := []) ⟨hx, hb, hml, hown, hts⟩ (c_Se_isChain l D cI cZ cJ cS aT ceT  h0 qm qs q1 q2 q3 q4 q5 St Mv Sm Ho Su Op Sd Od (spU Mv Sm (spP N Ca X Sm Sd Od n) i) (upTo (oqP N Ca X Sm Sd Od n) i) qh qn n S Ce N tn qu qo qx qy qr qw X (fun j => Ca i j && !(Sd j)) i hX12 hn hlt12) (cwV 2 hts (tb_4 wd_536 wd_538 wp_12 wd_5 (tb_c wd_539)) rfl rfl rfl ⟨rfl, by decide, by decide, by decide +kernel⟩ ⟨Nat.le_of_ble_eq_true rfl, Nat.le_of_ble_eq_true rfl⟩) (tP_V hK hX (hS.2.1 aT hXl hXn) hPc (q := 0) rfl rfl) rfl rfl hl.1 rfl (lv_room (Nat.le_of_ble_eq_true rfl)) d_Se_lookForPaths_96 ⟨Nat.le_of_ble_eq_true rfl, Nat.le_of_ble_eq_true rfl⟩)) (fun r16 hr9 => ?_)
          rw [hr9]
          rcases bI_c (chnC N X n (fun j => Ca i j && !(Sd j)) i) with ⟨hb18, e9⟩ | ⟨hb18, e9⟩
          · refine tr_top e9 ?_
            refine lv_if_eq (tgt := 115) hx hb d_Se_lookForPaths_99 (by decide) (fun h0 => absurd h0 (by decide)) (fun _ => ?_)
            refine lv_aload_n hx hb d_Se_lookForPaths_102 rfl (lv_at hl 2 rfl) ?_
            refine lv_dup hx hb d_Se_lookForPaths_103 rfl ?_
            refine va_get (D := D) (ci := 2) (v := .int (mI (upTo (oqP N Ca X Sm Sd Od n) i))) (C := R_Se) (T := T_Se) (N := 17) hx hb hts hin_Se hown hK hP 0 rfl rfl 15 (by decide) (hts _ wd_118) (fun _ h9 => h9) rfl d_Se_lookForPaths_104 ?_
            refine lv_iload_n hx hb d_Se_lookForPaths_107 rfl (lv_at hl 1 rfl) ?_
            have hPc := hP.sub (ws' := []) [] rfl
            refine vp_callSi (va_Run.run (va_runSN (As := [.int (nI i)]) (rest := [.int (mI (upTo (oqP N Ca X Sm Sd Od n) i)), .ref h0]) ⟨hx, hb, hml, hown, hts⟩ (c_Sw_bitN l D cI cZ cJ cS aT ceT  i hlt12) (⟨va_cnB 1 hts (tb_c wd_411) rfl rfl rfl hX.2.2.2.2.2.2.2.2.1 (hts _ wd_1) ⟨by decide, by decide, by decide +kernel⟩ ⟨Nat.le_of_ble_eq_true rfl, Nat.le_of_ble_eq_true rfl⟩, hts _ wd_410, trivial⟩) (tP_S hK hX (hS.2.1 aT hXl hXn) hPc) rfl rfl hl.1 rfl (lv_room (Nat.le_of_ble_eq_true rfl)) d_Se_lookForPaths_108 ⟨Nat.le_of_ble_eq_true rfl, Nat.le_of_ble_eq_true rfl⟩)) (fun r20 hr9 => ?_)
            rw [hr9]
            refine lv_ior hx hb d_Se_lookForPaths_111 ?_
            refine tr_top (y := mI (fun j => upTo (oqP N Ca X Sm Sd Od n) i j || decide (j = i))) (mI_or _ _) ?_
            refine va_put (D := D) (ci := 2) (v := .int (mI (fun j => upTo (oqP N Ca X Sm Sd Od n) i j || decide (j = i)))) (ty := .int) (C := R_Se) (T := T_Se) (N := 17) hx hb hts hin_Se ty_Se tyok_Se nm_Se hown hK hP hD hS 0 rfl rfl 15 (by decide) (hts _ wd_118) (fun _ h9 => h9) rfl (by decide +kernel) rfl rfl (Nat.le_of_ble_eq_true rfl) d_Se_lookForPaths_112 (fun H locs hP hD hS => ?_)
            have hP : va_P D vwCl [(h0, .inr (2, [.ref qm, .ref qs, .int (mI St), .int (mI Mv), .int (mI Sm), .int (mI Ho), .ref q1, .ref q2, .ref q3, .ref q4, .int (mI Su), .int (mI Op), .int (mI Sd), .int (mI Od), .int (mI (spU Mv Sm (spP N Ca X Sm Sd Od n) i)), .int (mI (fun j => upTo (oqP N Ca X Sm Sd Od n) i j || decide (j = i))), .ref q5])), (qm, .inr (4, [.int (nI n), .int (mI S), .int (mI Ce), .ref qh, .ref qn])), (qn, .inl (cI, 12, .inl (fun j => mI (N j)))), (q3, .inl (cI, 12, .inl (fun j => mI (Ca j)))), (qs, .inr (3, [.int tn, .ref qu, .ref qo, .ref qx, .ref qy, .ref qr, .ref qw])), (qx, .inl (cI, 12, .inl (fun j => nI (X j))))] H := hP
            have hD : va_D A [(h0, .inr (2, [.ref qm, .ref qs, .int (mI St), .int (mI Mv), .int (mI Sm), .int (mI Ho), .ref q1, .ref q2, .ref q3, .ref q4, .int (mI Su), .int (mI Op), .int (mI Sd), .int (mI Od), .int (mI (spU Mv Sm (spP N Ca X Sm Sd Od n) i)), .int (mI (fun j => upTo (oqP N Ca X Sm Sd Od n) i j || decide (j = i))), .ref q5])), (qm, .inr (4, [.int (nI n), .int (mI S), .int (mI Ce), .ref qh, .ref qn])), (qn, .inl (cI, 12, .inl (fun j => mI (N j)))), (q3, .inl (cI, 12, .inl (fun j => mI (Ca j)))), (qs, .inr (3, [.int tn, .ref qu, .ref qo, .ref qx, .ref qy, .ref qr, .ref qw])), (qx, .inl (cI, 12, .inl (fun j => nI (X j))))] := hD
            refine lv_iinc (lv' := [(1, .int ((nI i) + 1)), (2, .int (mI (fun j => Ca i j && !(Sd j)))), (0, .ref h0)]) hx hb d_Se_lookForPaths_115 hl (k := 1) rfl rfl (by decide) rfl (fun ls hl => ?_)
            refine lv_goto (tgt := 22) hx hb d_Se_lookForPaths_118 (by decide) ?_
            have e21 : (nI i) + 1 = nI (i + 1) := nI_1 i
            have eo22 : mI (spU Mv Sm (spP N Ca X Sm Sd Od n) i) = mI (spU Mv Sm (spP N Ca X Sm Sd Od n) (i + 1)) := mI_spN (show (spP N Ca X Sm Sd Od n) i = false by simp only [spP, hb5, hb9, hb18]; simp)
            have eo23 : mI (fun j => upTo (oqP N Ca X Sm Sd Od n) i j || decide (j = i)) = mI (upTo (oqP N Ca X Sm Sd Od n) (i + 1)) := mI_upY (show (oqP N Ca X Sm Sd Od n) i = true by simp only [oqP, hb5, hb9, hb18]; simp)
            exact ih (i + 1) ls H locs (by omega) (by rw [← e21]; exact lv_sub hl [0, 2] rfl) (by rw [← eo22, ← eo23]; exact hP) (by rw [← eo22, ← eo23]; exact hD) hS
          · refine tr_top e9 ?_
            refine lv_if_eq (tgt := 115) hx hb d_Se_lookForPaths_99 (by decide) (fun _ => ?_) (fun h0 => absurd (by decide) h0)
            refine lv_iinc (lv' := [(1, .int ((nI i) + 1)), (2, .int (mI (fun j => Ca i j && !(Sd j)))), (0, .ref h0)]) hx hb d_Se_lookForPaths_115 hl (k := 1) rfl rfl (by decide) rfl (fun ls hl => ?_)
            refine lv_goto (tgt := 22) hx hb d_Se_lookForPaths_118 (by decide) ?_
            have e25 : (nI i) + 1 = nI (i + 1) := nI_1 i
            have eo26 : mI (spU Mv Sm (spP N Ca X Sm Sd Od n) i) = mI (spU Mv Sm (spP N Ca X Sm Sd Od n) (i + 1)) := mI_spN (show (spP N Ca X Sm Sd Od n) i = false by simp only [spP, hb5, hb9, hb18]; simp)
            have eo27 : mI (upTo (oqP N Ca X Sm Sd Od n) i) = mI (upTo (oqP N Ca X Sm Sd Od n) (i + 1)) := mI_upN (show (oqP N Ca X Sm Sd Od n) i = false by simp only [oqP, hb5, hb9, hb18]; simp)
            exact ih (i + 1) ls H locs (by omega) (by rw [← e25]; exact lv_sub hl [0, 2] rfl) (by rw [← eo26, ← eo27]; exact hP) (by rw [← eo26, ← eo27]; exact hD) hS
      · refine tr_top e9 ?_
        refine lv_if_ne (tgt := 47) hx hb d_Se_lookForPaths_41 (by decide) (fun h0 => absurd (by decide) h0) (fun _ => ?_)
        refine lv_goto (tgt := 115) hx hb d_Se_lookForPaths_44 (by decide) ?_
        refine lv_iinc (lv' := [(1, .int ((nI i) + 1)), (0, .ref h0)]) hx hb d_Se_lookForPaths_115 hl (k := 0) rfl rfl (by decide) rfl (fun ls hl => ?_)
        refine lv_goto (tgt := 22) hx hb d_Se_lookForPaths_118 (by decide) ?_
        have e29 : (nI i) + 1 = nI (i + 1) := nI_1 i
        have eo30 : mI (spU Mv Sm (spP N Ca X Sm Sd Od n) i) = mI (spU Mv Sm (spP N Ca X Sm Sd Od n) (i + 1)) := mI_spN (show (spP N Ca X Sm Sd Od n) i = false by simp only [spP, hb5]; simp)
        have eo31 : mI (upTo (oqP N Ca X Sm Sd Od n) i) = mI (upTo (oqP N Ca X Sm Sd Od n) (i + 1)) := mI_upN (show (oqP N Ca X Sm Sd Od n) i = false by simp only [oqP, hb5]; simp)
        exact ih (i + 1) ls H locs (by omega) (by rw [← e29]; exact lv_sub hl [0, 1] rfl) (by rw [← eo30, ← eo31]; exact hP) (by rw [← eo30, ← eo31]; exact hD) hS
  exact loop n 0 ls _ _ (Nat.zero_add _) hl hP hD hS
