theorem d_In_bitCount_0 : decode b_In_bitCount 0 = .ok (.iload_n 0, 1) := by decide +kernel
theorem d_In_bitCount_1 : decode b_In_bitCount 1 = .ok (.iload_n 0, 1) := by decide +kernel
theorem d_In_bitCount_2 : decode b_In_bitCount 2 = .ok (.iconst 1, 1) := by decide +kernel
theorem d_In_bitCount_3 : decode b_In_bitCount 3 = .ok (.iushr, 1) := by decide +kernel
theorem d_In_bitCount_4 : decode b_In_bitCount 4 = .ok (.ldc_w 265, 3) := by decide +kernel
theorem d_In_bitCount_7 : decode b_In_bitCount 7 = .ok (.iand, 1) := by decide +kernel
theorem d_In_bitCount_8 : decode b_In_bitCount 8 = .ok (.isub, 1) := by decide +kernel
theorem d_In_bitCount_9 : decode b_In_bitCount 9 = .ok (.istore_n 0, 1) := by decide +kernel
theorem d_In_bitCount_10 : decode b_In_bitCount 10 = .ok (.iload_n 0, 1) := by decide +kernel
theorem d_In_bitCount_11 : decode b_In_bitCount 11 = .ok (.ldc_w 266, 3) := by decide +kernel
theorem d_In_bitCount_14 : decode b_In_bitCount 14 = .ok (.iand, 1) := by decide +kernel
theorem d_In_bitCount_15 : decode b_In_bitCount 15 = .ok (.iload_n 0, 1) := by decide +kernel
theorem d_In_bitCount_16 : decode b_In_bitCount 16 = .ok (.iconst 2, 1) := by decide +kernel
theorem d_In_bitCount_17 : decode b_In_bitCount 17 = .ok (.iushr, 1) := by decide +kernel
theorem d_In_bitCount_18 : decode b_In_bitCount 18 = .ok (.ldc_w 266, 3) := by decide +kernel
theorem d_In_bitCount_21 : decode b_In_bitCount 21 = .ok (.iand, 1) := by decide +kernel
theorem d_In_bitCount_22 : decode b_In_bitCount 22 = .ok (.iadd, 1) := by decide +kernel
theorem d_In_bitCount_23 : decode b_In_bitCount 23 = .ok (.istore_n 0, 1) := by decide +kernel
theorem d_In_bitCount_24 : decode b_In_bitCount 24 = .ok (.iload_n 0, 1) := by decide +kernel
theorem d_In_bitCount_25 : decode b_In_bitCount 25 = .ok (.iload_n 0, 1) := by decide +kernel
theorem d_In_bitCount_26 : decode b_In_bitCount 26 = .ok (.iconst 4, 1) := by decide +kernel
theorem d_In_bitCount_27 : decode b_In_bitCount 27 = .ok (.iushr, 1) := by decide +kernel
theorem d_In_bitCount_28 : decode b_In_bitCount 28 = .ok (.iadd, 1) := by decide +kernel
theorem d_In_bitCount_29 : decode b_In_bitCount 29 = .ok (.ldc_w 267, 3) := by decide +kernel
theorem d_In_bitCount_32 : decode b_In_bitCount 32 = .ok (.iand, 1) := by decide +kernel
theorem d_In_bitCount_33 : decode b_In_bitCount 33 = .ok (.istore_n 0, 1) := by decide +kernel
theorem d_In_bitCount_34 : decode b_In_bitCount 34 = .ok (.iload_n 0, 1) := by decide +kernel
theorem d_In_bitCount_35 : decode b_In_bitCount 35 = .ok (.iload_n 0, 1) := by decide +kernel
theorem d_In_bitCount_36 : decode b_In_bitCount 36 = .ok (.bipush 8, 2) := by decide +kernel
theorem d_In_bitCount_38 : decode b_In_bitCount 38 = .ok (.iushr, 1) := by decide +kernel
theorem d_In_bitCount_39 : decode b_In_bitCount 39 = .ok (.iadd, 1) := by decide +kernel
theorem d_In_bitCount_40 : decode b_In_bitCount 40 = .ok (.istore_n 0, 1) := by decide +kernel
theorem d_In_bitCount_41 : decode b_In_bitCount 41 = .ok (.iload_n 0, 1) := by decide +kernel
theorem d_In_bitCount_42 : decode b_In_bitCount 42 = .ok (.iload_n 0, 1) := by decide +kernel
theorem d_In_bitCount_43 : decode b_In_bitCount 43 = .ok (.bipush 16, 2) := by decide +kernel
theorem d_In_bitCount_45 : decode b_In_bitCount 45 = .ok (.iushr, 1) := by decide +kernel
theorem d_In_bitCount_46 : decode b_In_bitCount 46 = .ok (.iadd, 1) := by decide +kernel
theorem d_In_bitCount_47 : decode b_In_bitCount 47 = .ok (.istore_n 0, 1) := by decide +kernel
theorem d_In_bitCount_48 : decode b_In_bitCount 48 = .ok (.iload_n 0, 1) := by decide +kernel
theorem d_In_bitCount_49 : decode b_In_bitCount 49 = .ok (.bipush 63, 2) := by decide +kernel
theorem d_In_bitCount_51 : decode b_In_bitCount 51 = .ok (.iand, 1) := by decide +kernel
theorem d_In_bitCount_52 : decode b_In_bitCount 52 = .ok (.ireturn, 1) := by decide +kernel
theorem wd_559 : (Cond.constant "java/lang/Integer" (265 : Nat) (1431655765 : Int32)) ∈ TB := tb_t 559 (by decide +kernel) (by decide +kernel)
theorem wd_560 : (Cond.constant "java/lang/Integer" (266 : Nat) (858993459 : Int32)) ∈ TB := tb_t 560 (by decide +kernel) (by decide +kernel)
theorem wd_561 : (Cond.constant "java/lang/Integer" (267 : Nat) (252645135 : Int32)) ∈ TB := tb_t 561 (by decide +kernel) (by decide +kernel)
set_option maxHeartbeats 4000000 in
set_option maxRecDepth 100000 in
theorem c_In_bitCount (l : Launch) (D : va_G) (cI cZ cJ cS : ClassId) (aT : Nat) (ceT : Cell) (T9 : Nat → Bool)  : Met l y_In_bitCount w_In_bitCount ({ frames := 0, cells := 0, slots := 0, locals := 0 }) (tP D cI cZ cJ cS aT ceT [.int (mI T9)] []) (vp_Si (fun r => r = nI (numB T9 12))) 0 0 (fun _ => False) := by
  refine Met.ofW (cc := b_In_bitCount) (maxL := 1) (ret := (some .int)) (by decide) rfl ?_
  intro p e s m args below meth c s₁ B hml hv
  obtain ⟨rfl, hP, hK, hX⟩ := hv
  have hx := B.exec
  have hb := B.bytes
  have hr := B.returns
  have hts0 := atoms_spec (ws := w_In_bitCount) B.pre
  have hts : ∀ w ∈ TB, w.before _ s = true := fun w h => hts0 w (List.mem_cons_of_mem _ h)
  have hown : s.vm.findClass "java/lang/Integer" = some m.cls := findClass_of_methodNamed B.named
  have hlocks := B.notSynchronized
  have hXH : s.heap[aT]? = s.heap[aT]? := rfl
  have hl := lv_entry ([.int (mI T9)]) (n := 1) (Nat.le_of_ble_eq_true rfl)
  rw [lg_entry_eq]
  generalize (lg_sl ([.int (mI T9)]) ++ List.replicate (1 - (lg_sl ([.int (mI T9)])).length) Slot.unset).toArray = ls at hl ⊢
  have hl : lv_has ls 1 [(0, .int (mI T9))] := hl
  refine lv_iload_n hx hb d_In_bitCount_0 rfl (lv_at hl 0 rfl) ?_
  refine lv_iload_n hx hb d_In_bitCount_1 rfl (lv_at hl 0 rfl) ?_
  refine lv_iconst (v := 1) hx hb d_In_bitCount_2 (by decide) ?_
  refine lv_iushr (v := usr (mI T9) 1) hx hb d_In_bitCount_3 rfl ?_
  refine lv_ldcw (v := 1431655765) hx hb hown (hts _ wd_559) d_In_bitCount_4 ?_
  refine lv_iand hx hb d_In_bitCount_7 ?_
  refine lv_isub hx hb d_In_bitCount_8 ?_
  refine tr_top (y := bcA (mI T9)) rfl ?_
  refine lv_istore_n (lv' := [(0, .int (bcA (mI T9)))]) hx hb d_In_bitCount_9 rfl hl (by decide) rfl (fun ls hl => ?_)
  refine lv_iload_n hx hb d_In_bitCount_10 rfl (lv_at hl 0 rfl) ?_
  refine lv_ldcw (v := 858993459) hx hb hown (hts _ wd_560) d_In_bitCount_11 ?_
  refine lv_iand hx hb d_In_bitCount_14 ?_
  refine lv_iload_n hx hb d_In_bitCount_15 rfl (lv_at hl 0 rfl) ?_
  refine lv_iconst (v := 2) hx hb d_In_bitCount_16 (by decide) ?_
  refine lv_iushr (v := usr (bcA (mI T9)) 2) hx hb d_In_bitCount_17 rfl ?_
  refine lv_ldcw (v := 858993459) hx hb hown (hts _ wd_560) d_In_bitCount_18 ?_
  refine lv_iand hx hb d_In_bitCount_21 ?_
  refine lv_iadd hx hb d_In_bitCount_22 ?_
  refine tr_top (y := bcB (bcA (mI T9))) rfl ?_
  refine lv_istore_n (lv' := [(0, .int (bcB (bcA (mI T9))))]) hx hb d_In_bitCount_23 rfl hl (by decide) rfl (fun ls hl => ?_)
  refine lv_iload_n hx hb d_In_bitCount_24 rfl (lv_at hl 0 rfl) ?_
  refine lv_iload_n hx hb d_In_bitCount_25 rfl (lv_at hl 0 rfl) ?_
  refine lv_iconst (v := 4) hx hb d_In_bitCount_26 (by decide) ?_
  refine lv_iushr (v := usr (bcB (bcA (mI T9))) 4) hx hb d_In_bitCount_27 rfl ?_
  refine lv_iadd hx hb d_In_bitCount_28 ?_
  refine lv_ldcw (v := 252645135) hx hb hown (hts _ wd_561) d_In_bitCount_29 ?_
  refine lv_iand hx hb d_In_bitCount_32 ?_
  refine tr_top (y := bcC (bcB (bcA (mI T9)))) rfl ?_
  refine lv_istore_n (lv' := [(0, .int (bcC (bcB (bcA (mI T9)))))]) hx hb d_In_bitCount_33 rfl hl (by decide) rfl (fun ls hl => ?_)
  refine lv_iload_n hx hb d_In_bitCount_34 rfl (lv_at hl 0 rfl) ?_
  refine lv_iload_n hx hb d_In_bitCount_35 rfl (lv_at hl 0 rfl) ?_
  refine lv_bipush (v := 8) hx hb d_In_bitCount_36 (by decide) ?_
  refine lv_iushr (v := usr (bcC (bcB (bcA (mI T9)))) 8) hx hb d_In_bitCount_38 rfl ?_
  refine lv_iadd hx hb d_In_bitCount_39 ?_
  refine tr_top (y := bcD (bcC (bcB (bcA (mI T9))))) rfl ?_
  refine lv_istore_n (lv' := [(0, .int (bcD (bcC (bcB (bcA (mI T9))))))]) hx hb d_In_bitCount_40 rfl hl (by decide) rfl (fun ls hl => ?_)
  refine lv_iload_n hx hb d_In_bitCount_41 rfl (lv_at hl 0 rfl) ?_
  refine lv_iload_n hx hb d_In_bitCount_42 rfl (lv_at hl 0 rfl) ?_
  refine lv_bipush (v := 16) hx hb d_In_bitCount_43 (by decide) ?_
  refine lv_iushr (v := usr (bcD (bcC (bcB (bcA (mI T9))))) 16) hx hb d_In_bitCount_45 rfl ?_
  refine lv_iadd hx hb d_In_bitCount_46 ?_
  refine tr_top (y := bcE (bcD (bcC (bcB (bcA (mI T9)))))) rfl ?_
  refine lv_istore_n (lv' := [(0, .int (bcE (bcD (bcC (bcB (bcA (mI T9)))))))]) hx hb d_In_bitCount_47 rfl hl (by decide) rfl (fun ls hl => ?_)
  refine lv_iload_n hx hb d_In_bitCount_48 rfl (lv_at hl 0 rfl) ?_
  refine lv_bipush (v := 63) hx hb d_In_bitCount_49 (by decide) ?_
  refine lv_iand hx hb d_In_bitCount_51 ?_
  exact W.iret (v := (bcE (bcD (bcC (bcB (bcA (mI T9)))))) &&& 63) hx hb hr (fun t ht hW => ⟨(bcE (bcD (bcC (bcB (bcA (mI T9)))))) &&& 63, rfl, bc_mI T9, ht⟩) (fun q hq => by cases hq) d_In_bitCount_52

theorem d_In_lowestOneBit_0 : decode b_In_lowestOneBit 0 = .ok (.iload_n 0, 1) := by decide +kernel
theorem d_In_lowestOneBit_1 : decode b_In_lowestOneBit 1 = .ok (.iload_n 0, 1) := by decide +kernel
theorem d_In_lowestOneBit_2 : decode b_In_lowestOneBit 2 = .ok (.ineg, 1) := by decide +kernel
theorem d_In_lowestOneBit_3 : decode b_In_lowestOneBit 3 = .ok (.iand, 1) := by decide +kernel
theorem d_In_lowestOneBit_4 : decode b_In_lowestOneBit 4 = .ok (.ireturn, 1) := by decide +kernel

set_option maxHeartbeats 4000000 in
set_option maxRecDepth 100000 in
theorem c_In_low (l : Launch) (D : va_G) (cI cZ cJ cS : ClassId) (aT : Nat) (ceT : Cell) (T9 : Nat → Bool)  : Met l y_In_lowestOneBit w_In_lowestOneBit ({ frames := 0, cells := 0, slots := 0, locals := 0 }) (tP D cI cZ cJ cS aT ceT [.int (mI T9)] []) (vp_Si (fun r => r = mI (fun j => decide (j = lwB T9)))) 0 0 (fun _ => False) := by
  refine Met.ofW (cc := b_In_lowestOneBit) (maxL := 1) (ret := (some .int)) (by decide) rfl ?_
  intro p e s m args below meth c s₁ B hml hv
  obtain ⟨rfl, hP, hK, hX⟩ := hv
  have hx := B.exec
  have hb := B.bytes
  have hr := B.returns
  have hts0 := atoms_spec (ws := w_In_lowestOneBit) B.pre
  have hts : ∀ w ∈ TB, w.before _ s = true := fun w h => hts0 w (List.mem_cons_of_mem _ h)
  have hown : s.vm.findClass "java/lang/Integer" = some m.cls := findClass_of_methodNamed B.named
  have hlocks := B.notSynchronized
  have hXH : s.heap[aT]? = s.heap[aT]? := rfl
  have hl := lv_entry ([.int (mI T9)]) (n := 1) (Nat.le_of_ble_eq_true rfl)
  rw [lg_entry_eq]
  generalize (lg_sl ([.int (mI T9)]) ++ List.replicate (1 - (lg_sl ([.int (mI T9)])).length) Slot.unset).toArray = ls at hl ⊢
  have hl : lv_has ls 1 [(0, .int (mI T9))] := hl
  refine lv_iload_n hx hb d_In_lowestOneBit_0 rfl (lv_at hl 0 rfl) ?_
  refine lv_iload_n hx hb d_In_lowestOneBit_1 rfl (lv_at hl 0 rfl) ?_
  refine lv_ineg hx hb d_In_lowestOneBit_2 ?_
  refine lv_iand hx hb d_In_lowestOneBit_3 ?_
  exact W.iret (v := (mI T9) &&& (-(mI T9))) hx hb hr (fun t ht hW => ⟨(mI T9) &&& (-(mI T9)), rfl, lw_mI T9, ht⟩) (fun q hq => by cases hq) d_In_lowestOneBit_4

theorem d_In_numberOfTrailingZeros_0 : decode b_In_numberOfTrailingZeros 0 = .ok (.iload_n 0, 1) := by decide +kernel
theorem d_In_numberOfTrailingZeros_1 : decode b_In_numberOfTrailingZeros 1 = .ok (.iconst (-1), 1) := by decide +kernel
theorem d_In_numberOfTrailingZeros_2 : decode b_In_numberOfTrailingZeros 2 = .ok (.ixor, 1) := by decide +kernel
theorem d_In_numberOfTrailingZeros_3 : decode b_In_numberOfTrailingZeros 3 = .ok (.iload_n 0, 1) := by decide +kernel
theorem d_In_numberOfTrailingZeros_4 : decode b_In_numberOfTrailingZeros 4 = .ok (.iconst 1, 1) := by decide +kernel
theorem d_In_numberOfTrailingZeros_5 : decode b_In_numberOfTrailingZeros 5 = .ok (.isub, 1) := by decide +kernel
theorem d_In_numberOfTrailingZeros_6 : decode b_In_numberOfTrailingZeros 6 = .ok (.iand, 1) := by decide +kernel
theorem d_In_numberOfTrailingZeros_7 : decode b_In_numberOfTrailingZeros 7 = .ok (.istore_n 0, 1) := by decide +kernel
theorem d_In_numberOfTrailingZeros_8 : decode b_In_numberOfTrailingZeros 8 = .ok (.iload_n 0, 1) := by decide +kernel
theorem d_In_numberOfTrailingZeros_9 : decode b_In_numberOfTrailingZeros 9 = .ok (.ifCond .gt 8, 3) := by decide +kernel
theorem d_In_numberOfTrailingZeros_12 : decode b_In_numberOfTrailingZeros 12 = .ok (.iload_n 0, 1) := by decide +kernel
theorem d_In_numberOfTrailingZeros_13 : decode b_In_numberOfTrailingZeros 13 = .ok (.bipush 32, 2) := by decide +kernel
theorem d_In_numberOfTrailingZeros_15 : decode b_In_numberOfTrailingZeros 15 = .ok (.iand, 1) := by decide +kernel
theorem d_In_numberOfTrailingZeros_16 : decode b_In_numberOfTrailingZeros 16 = .ok (.ireturn, 1) := by decide +kernel
theorem d_In_numberOfTrailingZeros_17 : decode b_In_numberOfTrailingZeros 17 = .ok (.iconst 1, 1) := by decide +kernel
theorem d_In_numberOfTrailingZeros_18 : decode b_In_numberOfTrailingZeros 18 = .ok (.istore_n 1, 1) := by decide +kernel
theorem d_In_numberOfTrailingZeros_19 : decode b_In_numberOfTrailingZeros 19 = .ok (.iload_n 0, 1) := by decide +kernel
theorem d_In_numberOfTrailingZeros_20 : decode b_In_numberOfTrailingZeros 20 = .ok (.ldc_w 264, 3) := by decide +kernel
theorem d_In_numberOfTrailingZeros_23 : decode b_In_numberOfTrailingZeros 23 = .ok (.if_icmp .le 11, 3) := by decide +kernel
theorem d_In_numberOfTrailingZeros_26 : decode b_In_numberOfTrailingZeros 26 = .ok (.iinc 1 16, 3) := by decide +kernel
theorem d_In_numberOfTrailingZeros_29 : decode b_In_numberOfTrailingZeros 29 = .ok (.iload_n 0, 1) := by decide +kernel
theorem d_In_numberOfTrailingZeros_30 : decode b_In_numberOfTrailingZeros 30 = .ok (.bipush 16, 2) := by decide +kernel
theorem d_In_numberOfTrailingZeros_32 : decode b_In_numberOfTrailingZeros 32 = .ok (.iushr, 1) := by decide +kernel
theorem d_In_numberOfTrailingZeros_33 : decode b_In_numberOfTrailingZeros 33 = .ok (.istore_n 0, 1) := by decide +kernel
theorem d_In_numberOfTrailingZeros_34 : decode b_In_numberOfTrailingZeros 34 = .ok (.iload_n 0, 1) := by decide +kernel
theorem d_In_numberOfTrailingZeros_35 : decode b_In_numberOfTrailingZeros 35 = .ok (.sipush 256, 3) := by decide +kernel
theorem d_In_numberOfTrailingZeros_38 : decode b_In_numberOfTrailingZeros 38 = .ok (.if_icmp .le 11, 3) := by decide +kernel
theorem d_In_numberOfTrailingZeros_41 : decode b_In_numberOfTrailingZeros 41 = .ok (.iinc 1 8, 3) := by decide +kernel
theorem d_In_numberOfTrailingZeros_44 : decode b_In_numberOfTrailingZeros 44 = .ok (.iload_n 0, 1) := by decide +kernel
theorem d_In_numberOfTrailingZeros_45 : decode b_In_numberOfTrailingZeros 45 = .ok (.bipush 8, 2) := by decide +kernel
theorem d_In_numberOfTrailingZeros_47 : decode b_In_numberOfTrailingZeros 47 = .ok (.iushr, 1) := by decide +kernel
theorem d_In_numberOfTrailingZeros_48 : decode b_In_numberOfTrailingZeros 48 = .ok (.istore_n 0, 1) := by decide +kernel
theorem d_In_numberOfTrailingZeros_49 : decode b_In_numberOfTrailingZeros 49 = .ok (.iload_n 0, 1) := by decide +kernel
theorem d_In_numberOfTrailingZeros_50 : decode b_In_numberOfTrailingZeros 50 = .ok (.bipush 16, 2) := by decide +kernel
theorem d_In_numberOfTrailingZeros_52 : decode b_In_numberOfTrailingZeros 52 = .ok (.if_icmp .le 10, 3) := by decide +kernel
theorem d_In_numberOfTrailingZeros_55 : decode b_In_numberOfTrailingZeros 55 = .ok (.iinc 1 4, 3) := by decide +kernel
theorem d_In_numberOfTrailingZeros_58 : decode b_In_numberOfTrailingZeros 58 = .ok (.iload_n 0, 1) := by decide +kernel
theorem d_In_numberOfTrailingZeros_59 : decode b_In_numberOfTrailingZeros 59 = .ok (.iconst 4, 1) := by decide +kernel
theorem d_In_numberOfTrailingZeros_60 : decode b_In_numberOfTrailingZeros 60 = .ok (.iushr, 1) := by decide +kernel
theorem d_In_numberOfTrailingZeros_61 : decode b_In_numberOfTrailingZeros 61 = .ok (.istore_n 0, 1) := by decide +kernel
theorem d_In_numberOfTrailingZeros_62 : decode b_In_numberOfTrailingZeros 62 = .ok (.iload_n 0, 1) := by decide +kernel
theorem d_In_numberOfTrailingZeros_63 : decode b_In_numberOfTrailingZeros 63 = .ok (.iconst 4, 1) := by decide +kernel
theorem d_In_numberOfTrailingZeros_64 : decode b_In_numberOfTrailingZeros 64 = .ok (.if_icmp .le 10, 3) := by decide +kernel
theorem d_In_numberOfTrailingZeros_67 : decode b_In_numberOfTrailingZeros 67 = .ok (.iinc 1 2, 3) := by decide +kernel
theorem d_In_numberOfTrailingZeros_70 : decode b_In_numberOfTrailingZeros 70 = .ok (.iload_n 0, 1) := by decide +kernel
theorem d_In_numberOfTrailingZeros_71 : decode b_In_numberOfTrailingZeros 71 = .ok (.iconst 2, 1) := by decide +kernel
theorem d_In_numberOfTrailingZeros_72 : decode b_In_numberOfTrailingZeros 72 = .ok (.iushr, 1) := by decide +kernel
theorem d_In_numberOfTrailingZeros_73 : decode b_In_numberOfTrailingZeros 73 = .ok (.istore_n 0, 1) := by decide +kernel
theorem d_In_numberOfTrailingZeros_74 : decode b_In_numberOfTrailingZeros 74 = .ok (.iload_n 1, 1) := by decide +kernel
theorem d_In_numberOfTrailingZeros_75 : decode b_In_numberOfTrailingZeros 75 = .ok (.iload_n 0, 1) := by decide +kernel
theorem d_In_numberOfTrailingZeros_76 : decode b_In_numberOfTrailingZeros 76 = .ok (.iconst 1, 1) := by decide +kernel
theorem d_In_numberOfTrailingZeros_77 : decode b_In_numberOfTrailingZeros 77 = .ok (.iushr, 1) := by decide +kernel
theorem d_In_numberOfTrailingZeros_78 : decode b_In_numberOfTrailingZeros 78 = .ok (.iadd, 1) := by decide +kernel
theorem d_In_numberOfTrailingZeros_79 : decode b_In_numberOfTrailingZeros 79 = .ok (.ireturn, 1) := by decide +kernel
theorem wd_596 : (Cond.constant "java/lang/Integer" (264 : Nat) (65536 : Int32)) ∈ TB := tb_t 596 (by decide +kernel) (by decide +kernel)
set_option maxHeartbeats 4000000 in
set_option maxRecDepth 100000 in
theorem c_In_ntz (l : Launch) (D : va_G) (cI cZ cJ cS : ClassId) (aT : Nat) (ceT : Cell) (T9 : Nat → Bool)  : Met l y_In_numberOfTrailingZeros w_In_numberOfTrailingZeros ({ frames := 0, cells := 0, slots := 0, locals := 0 }) (tP D cI cZ cJ cS aT ceT [.int (mI T9)] []) (vp_Si (fun r => r = nI (if lwB T9 = 12 then 32 else lwB T9))) 0 0 (fun _ => False) := by
  refine Met.ofW (cc := b_In_numberOfTrailingZeros) (maxL := 2) (ret := (some .int)) (by decide) rfl ?_
  intro p e s m args below meth c s₁ B hml hv
  obtain ⟨rfl, hP, hK, hX⟩ := hv
  have hx := B.exec
  have hb := B.bytes
  have hr := B.returns
  have hts0 := atoms_spec (ws := w_In_numberOfTrailingZeros) B.pre
  have hts : ∀ w ∈ TB, w.before _ s = true := fun w h => hts0 w (List.mem_cons_of_mem _ h)
  have hown : s.vm.findClass "java/lang/Integer" = some m.cls := findClass_of_methodNamed B.named
  have hlocks := B.notSynchronized
  have hXH : s.heap[aT]? = s.heap[aT]? := rfl
  have hl := lv_entry ([.int (mI T9)]) (n := 2) (Nat.le_of_ble_eq_true rfl)
  rw [lg_entry_eq]
  generalize (lg_sl ([.int (mI T9)]) ++ List.replicate (2 - (lg_sl ([.int (mI T9)])).length) Slot.unset).toArray = ls at hl ⊢
  have hl : lv_has ls 2 [(0, .int (mI T9))] := hl
  refine lv_iload_n hx hb d_In_numberOfTrailingZeros_0 rfl (lv_at hl 0 rfl) ?_
  refine lv_iconst (v := (-1)) hx hb d_In_numberOfTrailingZeros_1 (by decide) ?_
  refine lv_ixor hx hb d_In_numberOfTrailingZeros_2 ?_
  refine lv_iload_n hx hb d_In_numberOfTrailingZeros_3 rfl (lv_at hl 0 rfl) ?_
  refine lv_iconst (v := 1) hx hb d_In_numberOfTrailingZeros_4 (by decide) ?_
  refine lv_isub hx hb d_In_numberOfTrailingZeros_5 ?_
  refine lv_iand hx hb d_In_numberOfTrailingZeros_6 ?_
  refine tr_top (nt_mI T9) ?_
  have hle9 := lwB_le T9
  rcases (show lwB T9 = 0 ∨ lwB T9 = 1 ∨ lwB T9 = 2 ∨ lwB T9 = 3 ∨ lwB T9 = 4 ∨ lwB T9 = 5 ∨ lwB T9 = 6 ∨ lwB T9 = 7 ∨ lwB T9 = 8 ∨ lwB T9 = 9 ∨ lwB T9 = 10 ∨ lwB T9 = 11 ∨ lwB T9 = 12 by omega) with hk9 | hk9 | hk9 | hk9 | hk9 | hk9 | hk9 | hk9 | hk9 | hk9 | hk9 | hk9 | hk9
  · refine tr_top (y := 0) (by rw [hk9]; decide) ?_
    refine lv_istore_n (lv' := [(0, .int 0)]) hx hb d_In_numberOfTrailingZeros_7 rfl hl (by decide) rfl (fun ls hl => ?_)
    refine lv_iload_n hx hb d_In_numberOfTrailingZeros_8 rfl (lv_at hl 0 rfl) ?_
    refine lv_if_gt (tgt := 17) hx hb d_In_numberOfTrailingZeros_9 (by decide) (fun h0 => absurd h0 (by decide)) (fun _ => ?_)
    refine lv_iload_n hx hb d_In_numberOfTrailingZeros_12 rfl (lv_at hl 0 rfl) ?_
    refine lv_bipush (v := 32) hx hb d_In_numberOfTrailingZeros_13 (by decide) ?_
    refine lv_iand hx hb d_In_numberOfTrailingZeros_15 ?_
    exact W.iret (v := 0 &&& 32) hx hb hr (fun t ht hW => ⟨0 &&& 32, rfl, by rw [hk9]; decide, ht⟩) (fun q hq => by cases hq) d_In_numberOfTrailingZeros_16
  · refine tr_top (y := 1) (by rw [hk9]; decide) ?_
    refine lv_istore_n (lv' := [(0, .int 1)]) hx hb d_In_numberOfTrailingZeros_7 rfl hl (by decide) rfl (fun ls hl => ?_)
    refine lv_iload_n hx hb d_In_numberOfTrailingZeros_8 rfl (lv_at hl 0 rfl) ?_
    refine lv_if_gt (tgt := 17) hx hb d_In_numberOfTrailingZeros_9 (by decide) (fun _ => ?_) (fun h0 => absurd (by decide) h0)
    refine lv_iconst (v := 1) hx hb d_In_numberOfTrailingZeros_17 (by decide) ?_
    refine lv_istore_n (lv' := [(1, .int 1), (0, .int 1)]) hx hb d_In_numberOfTrailingZeros_18 rfl hl (by decide) rfl (fun ls hl => ?_)
    refine lv_iload_n hx hb d_In_numberOfTrailingZeros_19 rfl (lv_at hl 1 rfl) ?_
    refine lv_ldcw (v := 65536) hx hb hown (hts _ wd_596) d_In_numberOfTrailingZeros_20 ?_
    refine lv_icmp_le (tgt := 34) hx hb d_In_numberOfTrailingZeros_23 (by decide) (fun _ => ?_) (fun h0 => absurd (by decide) h0)
    refine lv_iload_n hx hb d_In_numberOfTrailingZeros_34 rfl (lv_at hl 1 rfl) ?_
    refine lv_sipush (v := 256) hx hb d_In_numberOfTrailingZeros_35 (by decide) ?_
    refine lv_icmp_le (tgt := 49) hx hb d_In_numberOfTrailingZeros_38 (by decide) (fun _ => ?_) (fun h0 => absurd (by decide) h0)
    refine lv_iload_n hx hb d_In_numberOfTrailingZeros_49 rfl (lv_at hl 1 rfl) ?_
    refine lv_bipush (v := 16) hx hb d_In_numberOfTrailingZeros_50 (by decide) ?_
    refine lv_icmp_le (tgt := 62) hx hb d_In_numberOfTrailingZeros_52 (by decide) (fun _ => ?_) (fun h0 => absurd (by decide) h0)
    refine lv_iload_n hx hb d_In_numberOfTrailingZeros_62 rfl (lv_at hl 1 rfl) ?_
    refine lv_iconst (v := 4) hx hb d_In_numberOfTrailingZeros_63 (by decide) ?_
    refine lv_icmp_le (tgt := 74) hx hb d_In_numberOfTrailingZeros_64 (by decide) (fun _ => ?_) (fun h0 => absurd (by decide) h0)
    refine lv_iload_n hx hb d_In_numberOfTrailingZeros_74 rfl (lv_at hl 0 rfl) ?_
    refine lv_iload_n hx hb d_In_numberOfTrailingZeros_75 rfl (lv_at hl 1 rfl) ?_
    refine lv_iconst (v := 1) hx hb d_In_numberOfTrailingZeros_76 (by decide) ?_
    refine lv_iushr (v := 0) hx hb d_In_numberOfTrailingZeros_77 (by decide) ?_
    refine lv_iadd hx hb d_In_numberOfTrailingZeros_78 ?_
    refine lv_topi (fun z7 hz7 => ?_)
    rw [show z7 = 1 from hz7.trans (by decide)]
    exact W.iret (v := 1) hx hb hr (fun t ht hW => ⟨1, rfl, by rw [hk9]; decide, ht⟩) (fun q hq => by cases hq) d_In_numberOfTrailingZeros_79
  · refine tr_top (y := 3) (by rw [hk9]; decide) ?_
    refine lv_istore_n (lv' := [(0, .int 3)]) hx hb d_In_numberOfTrailingZeros_7 rfl hl (by decide) rfl (fun ls hl => ?_)
    refine lv_iload_n hx hb d_In_numberOfTrailingZeros_8 rfl (lv_at hl 0 rfl) ?_
    refine lv_if_gt (tgt := 17) hx hb d_In_numberOfTrailingZeros_9 (by decide) (fun _ => ?_) (fun h0 => absurd (by decide) h0)
    refine lv_iconst (v := 1) hx hb d_In_numberOfTrailingZeros_17 (by decide) ?_
    refine lv_istore_n (lv' := [(1, .int 1), (0, .int 3)]) hx hb d_In_numberOfTrailingZeros_18 rfl hl (by decide) rfl (fun ls hl => ?_)
    refine lv_iload_n hx hb d_In_numberOfTrailingZeros_19 rfl (lv_at hl 1 rfl) ?_
    refine lv_ldcw (v := 65536) hx hb hown (hts _ wd_596) d_In_numberOfTrailingZeros_20 ?_
    refine lv_icmp_le (tgt := 34) hx hb d_In_numberOfTrailingZeros_23 (by decide) (fun _ => ?_) (fun h0 => absurd (by decide) h0)
    refine lv_iload_n hx hb d_In_numberOfTrailingZeros_34 rfl (lv_at hl 1 rfl) ?_
    refine lv_sipush (v := 256) hx hb d_In_numberOfTrailingZeros_35 (by decide) ?_
    refine lv_icmp_le (tgt := 49) hx hb d_In_numberOfTrailingZeros_38 (by decide) (fun _ => ?_) (fun h0 => absurd (by decide) h0)
    refine lv_iload_n hx hb d_In_numberOfTrailingZeros_49 rfl (lv_at hl 1 rfl) ?_
    refine lv_bipush (v := 16) hx hb d_In_numberOfTrailingZeros_50 (by decide) ?_
    refine lv_icmp_le (tgt := 62) hx hb d_In_numberOfTrailingZeros_52 (by decide) (fun _ => ?_) (fun h0 => absurd (by decide) h0)
    refine lv_iload_n hx hb d_In_numberOfTrailingZeros_62 rfl (lv_at hl 1 rfl) ?_
    refine lv_iconst (v := 4) hx hb d_In_numberOfTrailingZeros_63 (by decide) ?_
    refine lv_icmp_le (tgt := 74) hx hb d_In_numberOfTrailingZeros_64 (by decide) (fun _ => ?_) (fun h0 => absurd (by decide) h0)
    refine lv_iload_n hx hb d_In_numberOfTrailingZeros_74 rfl (lv_at hl 0 rfl) ?_
    refine lv_iload_n hx hb d_In_numberOfTrailingZeros_75 rfl (lv_at hl 1 rfl) ?_
    refine lv_iconst (v := 1) hx hb d_In_numberOfTrailingZeros_76 (by decide) ?_
    refine lv_iushr (v := 1) hx hb d_In_numberOfTrailingZeros_77 (by decide) ?_
    refine lv_iadd hx hb d_In_numberOfTrailingZeros_78 ?_
    refine lv_topi (fun z13 hz13 => ?_)
    rw [show z13 = 2 from hz13.trans (by decide)]
    exact W.iret (v := 2) hx hb hr (fun t ht hW => ⟨2, rfl, by rw [hk9]; decide, ht⟩) (fun q hq => by cases hq) d_In_numberOfTrailingZeros_79
  · refine tr_top (y := 7) (by rw [hk9]; decide) ?_
    refine lv_istore_n (lv' := [(0, .int 7)]) hx hb d_In_numberOfTrailingZeros_7 rfl hl (by decide) rfl (fun ls hl => ?_)
    refine lv_iload_n hx hb d_In_numberOfTrailingZeros_8 rfl (lv_at hl 0 rfl) ?_
    refine lv_if_gt (tgt := 17) hx hb d_In_numberOfTrailingZeros_9 (by decide) (fun _ => ?_) (fun h0 => absurd (by decide) h0)
    refine lv_iconst (v := 1) hx hb d_In_numberOfTrailingZeros_17 (by decide) ?_
    refine lv_istore_n (lv' := [(1, .int 1), (0, .int 7)]) hx hb d_In_numberOfTrailingZeros_18 rfl hl (by decide) rfl (fun ls hl => ?_)
    refine lv_iload_n hx hb d_In_numberOfTrailingZeros_19 rfl (lv_at hl 1 rfl) ?_
    refine lv_ldcw (v := 65536) hx hb hown (hts _ wd_596) d_In_numberOfTrailingZeros_20 ?_
    refine lv_icmp_le (tgt := 34) hx hb d_In_numberOfTrailingZeros_23 (by decide) (fun _ => ?_) (fun h0 => absurd (by decide) h0)
    refine lv_iload_n hx hb d_In_numberOfTrailingZeros_34 rfl (lv_at hl 1 rfl) ?_
    refine lv_sipush (v := 256) hx hb d_In_numberOfTrailingZeros_35 (by decide) ?_
    refine lv_icmp_le (tgt := 49) hx hb d_In_numberOfTrailingZeros_38 (by decide) (fun _ => ?_) (fun h0 => absurd (by decide) h0)
    refine lv_iload_n hx hb d_In_numberOfTrailingZeros_49 rfl (lv_at hl 1 rfl) ?_
    refine lv_bipush (v := 16) hx hb d_In_numberOfTrailingZeros_50 (by decide) ?_
    refine lv_icmp_le (tgt := 62) hx hb d_In_numberOfTrailingZeros_52 (by decide) (fun _ => ?_) (fun h0 => absurd (by decide) h0)
    refine lv_iload_n hx hb d_In_numberOfTrailingZeros_62 rfl (lv_at hl 1 rfl) ?_
    refine lv_iconst (v := 4) hx hb d_In_numberOfTrailingZeros_63 (by decide) ?_
    refine lv_icmp_le (tgt := 74) hx hb d_In_numberOfTrailingZeros_64 (by decide) (fun h0 => absurd h0 (by decide)) (fun _ => ?_)
    refine lv_iinc (lv' := [(1, .int 3), (0, .int 7)]) hx hb d_In_numberOfTrailingZeros_67 hl (k := 0) rfl (by decide) (by decide) rfl (fun ls hl => ?_)
    refine lv_iload_n hx hb d_In_numberOfTrailingZeros_70 rfl (lv_at hl 1 rfl) ?_
    refine lv_iconst (v := 2) hx hb d_In_numberOfTrailingZeros_71 (by decide) ?_
    refine lv_iushr (v := 1) hx hb d_In_numberOfTrailingZeros_72 (by decide) ?_
    refine lv_istore_n (lv' := [(0, .int 1), (1, .int 3)]) hx hb d_In_numberOfTrailingZeros_73 rfl hl (by decide) rfl (fun ls hl => ?_)
    refine lv_iload_n hx hb d_In_numberOfTrailingZeros_74 rfl (lv_at hl 1 rfl) ?_
    refine lv_iload_n hx hb d_In_numberOfTrailingZeros_75 rfl (lv_at hl 0 rfl) ?_
    refine lv_iconst (v := 1) hx hb d_In_numberOfTrailingZeros_76 (by decide) ?_
    refine lv_iushr (v := 0) hx hb d_In_numberOfTrailingZeros_77 (by decide) ?_
    refine lv_iadd hx hb d_In_numberOfTrailingZeros_78 ?_
    refine lv_topi (fun z19 hz19 => ?_)
    rw [show z19 = 3 from hz19.trans (by decide)]
    exact W.iret (v := 3) hx hb hr (fun t ht hW => ⟨3, rfl, by rw [hk9]; decide, ht⟩) (fun q hq => by cases hq) d_In_numberOfTrailingZeros_79
  · refine tr_top (y := 15) (by rw [hk9]; decide) ?_
    refine lv_istore_n (lv' := [(0, .int 15)]) hx hb d_In_numberOfTrailingZeros_7 rfl hl (by decide) rfl (fun ls hl => ?_)
    refine lv_iload_n hx hb d_In_numberOfTrailingZeros_8 rfl (lv_at hl 0 rfl) ?_
    refine lv_if_gt (tgt := 17) hx hb d_In_numberOfTrailingZeros_9 (by decide) (fun _ => ?_) (fun h0 => absurd (by decide) h0)
    refine lv_iconst (v := 1) hx hb d_In_numberOfTrailingZeros_17 (by decide) ?_
    refine lv_istore_n (lv' := [(1, .int 1), (0, .int 15)]) hx hb d_In_numberOfTrailingZeros_18 rfl hl (by decide) rfl (fun ls hl => ?_)
    refine lv_iload_n hx hb d_In_numberOfTrailingZeros_19 rfl (lv_at hl 1 rfl) ?_
    refine lv_ldcw (v := 65536) hx hb hown (hts _ wd_596) d_In_numberOfTrailingZeros_20 ?_
    refine lv_icmp_le (tgt := 34) hx hb d_In_numberOfTrailingZeros_23 (by decide) (fun _ => ?_) (fun h0 => absurd (by decide) h0)
    refine lv_iload_n hx hb d_In_numberOfTrailingZeros_34 rfl (lv_at hl 1 rfl) ?_
    refine lv_sipush (v := 256) hx hb d_In_numberOfTrailingZeros_35 (by decide) ?_
    refine lv_icmp_le (tgt := 49) hx hb d_In_numberOfTrailingZeros_38 (by decide) (fun _ => ?_) (fun h0 => absurd (by decide) h0)
    refine lv_iload_n hx hb d_In_numberOfTrailingZeros_49 rfl (lv_at hl 1 rfl) ?_
    refine lv_bipush (v := 16) hx hb d_In_numberOfTrailingZeros_50 (by decide) ?_
    refine lv_icmp_le (tgt := 62) hx hb d_In_numberOfTrailingZeros_52 (by decide) (fun _ => ?_) (fun h0 => absurd (by decide) h0)
    refine lv_iload_n hx hb d_In_numberOfTrailingZeros_62 rfl (lv_at hl 1 rfl) ?_
    refine lv_iconst (v := 4) hx hb d_In_numberOfTrailingZeros_63 (by decide) ?_
    refine lv_icmp_le (tgt := 74) hx hb d_In_numberOfTrailingZeros_64 (by decide) (fun h0 => absurd h0 (by decide)) (fun _ => ?_)
    refine lv_iinc (lv' := [(1, .int 3), (0, .int 15)]) hx hb d_In_numberOfTrailingZeros_67 hl (k := 0) rfl (by decide) (by decide) rfl (fun ls hl => ?_)
    refine lv_iload_n hx hb d_In_numberOfTrailingZeros_70 rfl (lv_at hl 1 rfl) ?_
    refine lv_iconst (v := 2) hx hb d_In_numberOfTrailingZeros_71 (by decide) ?_
    refine lv_iushr (v := 3) hx hb d_In_numberOfTrailingZeros_72 (by decide) ?_
    refine lv_istore_n (lv' := [(0, .int 3), (1, .int 3)]) hx hb d_In_numberOfTrailingZeros_73 rfl hl (by decide) rfl (fun ls hl => ?_)
    refine lv_iload_n hx hb d_In_numberOfTrailingZeros_74 rfl (lv_at hl 1 rfl) ?_
    refine lv_iload_n hx hb d_In_numberOfTrailingZeros_75 rfl (lv_at hl 0 rfl) ?_
    refine lv_iconst (v := 1) hx hb d_In_numberOfTrailingZeros_76 (by decide) ?_
    refine lv_iushr (v := 1) hx hb d_In_numberOfTrailingZeros_77 (by decide) ?_
    refine lv_iadd hx hb d_In_numberOfTrailingZeros_78 ?_
    refine lv_topi (fun z25 hz25 => ?_)
    rw [show z25 = 4 from hz25.trans (by decide)]
    exact W.iret (v := 4) hx hb hr (fun t ht hW => ⟨4, rfl, by rw [hk9]; decide, ht⟩) (fun q hq => by cases hq) d_In_numberOfTrailingZeros_79
  · refine tr_top (y := 31) (by rw [hk9]; decide) ?_
    refine lv_istore_n (lv' := [(0, .int 31)]) hx hb d_In_numberOfTrailingZeros_7 rfl hl (by decide) rfl (fun ls hl => ?_)
    refine lv_iload_n hx hb d_In_numberOfTrailingZeros_8 rfl (lv_at hl 0 rfl) ?_
    refine lv_if_gt (tgt := 17) hx hb d_In_numberOfTrailingZeros_9 (by decide) (fun _ => ?_) (fun h0 => absurd (by decide) h0)
    refine lv_iconst (v := 1) hx hb d_In_numberOfTrailingZeros_17 (by decide) ?_
    refine lv_istore_n (lv' := [(1, .int 1), (0, .int 31)]) hx hb d_In_numberOfTrailingZeros_18 rfl hl (by decide) rfl (fun ls hl => ?_)
    refine lv_iload_n hx hb d_In_numberOfTrailingZeros_19 rfl (lv_at hl 1 rfl) ?_
    refine lv_ldcw (v := 65536) hx hb hown (hts _ wd_596) d_In_numberOfTrailingZeros_20 ?_
    refine lv_icmp_le (tgt := 34) hx hb d_In_numberOfTrailingZeros_23 (by decide) (fun _ => ?_) (fun h0 => absurd (by decide) h0)
    refine lv_iload_n hx hb d_In_numberOfTrailingZeros_34 rfl (lv_at hl 1 rfl) ?_
    refine lv_sipush (v := 256) hx hb d_In_numberOfTrailingZeros_35 (by decide) ?_
    refine lv_icmp_le (tgt := 49) hx hb d_In_numberOfTrailingZeros_38 (by decide) (fun _ => ?_) (fun h0 => absurd (by decide) h0)
    refine lv_iload_n hx hb d_In_numberOfTrailingZeros_49 rfl (lv_at hl 1 rfl) ?_
    refine lv_bipush (v := 16) hx hb d_In_numberOfTrailingZeros_50 (by decide) ?_
    refine lv_icmp_le (tgt := 62) hx hb d_In_numberOfTrailingZeros_52 (by decide) (fun h0 => absurd h0 (by decide)) (fun _ => ?_)
    refine lv_iinc (lv' := [(1, .int 5), (0, .int 31)]) hx hb d_In_numberOfTrailingZeros_55 hl (k := 0) rfl (by decide) (by decide) rfl (fun ls hl => ?_)
    refine lv_iload_n hx hb d_In_numberOfTrailingZeros_58 rfl (lv_at hl 1 rfl) ?_
    refine lv_iconst (v := 4) hx hb d_In_numberOfTrailingZeros_59 (by decide) ?_
    refine lv_iushr (v := 1) hx hb d_In_numberOfTrailingZeros_60 (by decide) ?_
    refine lv_istore_n (lv' := [(0, .int 1), (1, .int 5)]) hx hb d_In_numberOfTrailingZeros_61 rfl hl (by decide) rfl (fun ls hl => ?_)
    refine lv_iload_n hx hb d_In_numberOfTrailingZeros_62 rfl (lv_at hl 0 rfl) ?_
    refine lv_iconst (v := 4) hx hb d_In_numberOfTrailingZeros_63 (by decide) ?_
    refine lv_icmp_le (tgt := 74) hx hb d_In_numberOfTrailingZeros_64 (by decide) (fun _ => ?_) (fun h0 => absurd (by decide) h0)
    refine lv_iload_n hx hb d_In_numberOfTrailingZeros_74 rfl (lv_at hl 1 rfl) ?_
    refine lv_iload_n hx hb d_In_numberOfTrailingZeros_75 rfl (lv_at hl 0 rfl) ?_
    refine lv_iconst (v := 1) hx hb d_In_numberOfTrailingZeros_76 (by decide) ?_
    refine lv_iushr (v := 0) hx hb d_In_numberOfTrailingZeros_77 (by decide) ?_
    refine lv_iadd hx hb d_In_numberOfTrailingZeros_78 ?_
    refine lv_topi (fun z31 hz31 => ?_)
    rw [show z31 = 5 from hz31.trans (by decide)]
    exact W.iret (v := 5) hx hb hr (fun t ht hW => ⟨5, rfl, by rw [hk9]; decide, ht⟩) (fun q hq => by cases hq) d_In_numberOfTrailingZeros_79
  · refine tr_top (y := 63) (by rw [hk9]; decide) ?_
    refine lv_istore_n (lv' := [(0, .int 63)]) hx hb d_In_numberOfTrailingZeros_7 rfl hl (by decide) rfl (fun ls hl => ?_)
    refine lv_iload_n hx hb d_In_numberOfTrailingZeros_8 rfl (lv_at hl 0 rfl) ?_
    refine lv_if_gt (tgt := 17) hx hb d_In_numberOfTrailingZeros_9 (by decide) (fun _ => ?_) (fun h0 => absurd (by decide) h0)
    refine lv_iconst (v := 1) hx hb d_In_numberOfTrailingZeros_17 (by decide) ?_
    refine lv_istore_n (lv' := [(1, .int 1), (0, .int 63)]) hx hb d_In_numberOfTrailingZeros_18 rfl hl (by decide) rfl (fun ls hl => ?_)
    refine lv_iload_n hx hb d_In_numberOfTrailingZeros_19 rfl (lv_at hl 1 rfl) ?_
    refine lv_ldcw (v := 65536) hx hb hown (hts _ wd_596) d_In_numberOfTrailingZeros_20 ?_
    refine lv_icmp_le (tgt := 34) hx hb d_In_numberOfTrailingZeros_23 (by decide) (fun _ => ?_) (fun h0 => absurd (by decide) h0)
    refine lv_iload_n hx hb d_In_numberOfTrailingZeros_34 rfl (lv_at hl 1 rfl) ?_
    refine lv_sipush (v := 256) hx hb d_In_numberOfTrailingZeros_35 (by decide) ?_
    refine lv_icmp_le (tgt := 49) hx hb d_In_numberOfTrailingZeros_38 (by decide) (fun _ => ?_) (fun h0 => absurd (by decide) h0)
    refine lv_iload_n hx hb d_In_numberOfTrailingZeros_49 rfl (lv_at hl 1 rfl) ?_
    refine lv_bipush (v := 16) hx hb d_In_numberOfTrailingZeros_50 (by decide) ?_
    refine lv_icmp_le (tgt := 62) hx hb d_In_numberOfTrailingZeros_52 (by decide) (fun h0 => absurd h0 (by decide)) (fun _ => ?_)
    refine lv_iinc (lv' := [(1, .int 5), (0, .int 63)]) hx hb d_In_numberOfTrailingZeros_55 hl (k := 0) rfl (by decide) (by decide) rfl (fun ls hl => ?_)
    refine lv_iload_n hx hb d_In_numberOfTrailingZeros_58 rfl (lv_at hl 1 rfl) ?_
    refine lv_iconst (v := 4) hx hb d_In_numberOfTrailingZeros_59 (by decide) ?_
    refine lv_iushr (v := 3) hx hb d_In_numberOfTrailingZeros_60 (by decide) ?_
    refine lv_istore_n (lv' := [(0, .int 3), (1, .int 5)]) hx hb d_In_numberOfTrailingZeros_61 rfl hl (by decide) rfl (fun ls hl => ?_)
    refine lv_iload_n hx hb d_In_numberOfTrailingZeros_62 rfl (lv_at hl 0 rfl) ?_
    refine lv_iconst (v := 4) hx hb d_In_numberOfTrailingZeros_63 (by decide) ?_
    refine lv_icmp_le (tgt := 74) hx hb d_In_numberOfTrailingZeros_64 (by decide) (fun _ => ?_) (fun h0 => absurd (by decide) h0)
    refine lv_iload_n hx hb d_In_numberOfTrailingZeros_74 rfl (lv_at hl 1 rfl) ?_
    refine lv_iload_n hx hb d_In_numberOfTrailingZeros_75 rfl (lv_at hl 0 rfl) ?_
    refine lv_iconst (v := 1) hx hb d_In_numberOfTrailingZeros_76 (by decide) ?_
    refine lv_iushr (v := 1) hx hb d_In_numberOfTrailingZeros_77 (by decide) ?_
    refine lv_iadd hx hb d_In_numberOfTrailingZeros_78 ?_
    refine lv_topi (fun z37 hz37 => ?_)
    rw [show z37 = 6 from hz37.trans (by decide)]
    exact W.iret (v := 6) hx hb hr (fun t ht hW => ⟨6, rfl, by rw [hk9]; decide, ht⟩) (fun q hq => by cases hq) d_In_numberOfTrailingZeros_79
  · refine tr_top (y := 127) (by rw [hk9]; decide) ?_
    refine lv_istore_n (lv' := [(0, .int 127)]) hx hb d_In_numberOfTrailingZeros_7 rfl hl (by decide) rfl (fun ls hl => ?_)
    refine lv_iload_n hx hb d_In_numberOfTrailingZeros_8 rfl (lv_at hl 0 rfl) ?_
    refine lv_if_gt (tgt := 17) hx hb d_In_numberOfTrailingZeros_9 (by decide) (fun _ => ?_) (fun h0 => absurd (by decide) h0)
    refine lv_iconst (v := 1) hx hb d_In_numberOfTrailingZeros_17 (by decide) ?_
    refine lv_istore_n (lv' := [(1, .int 1), (0, .int 127)]) hx hb d_In_numberOfTrailingZeros_18 rfl hl (by decide) rfl (fun ls hl => ?_)
    refine lv_iload_n hx hb d_In_numberOfTrailingZeros_19 rfl (lv_at hl 1 rfl) ?_
    refine lv_ldcw (v := 65536) hx hb hown (hts _ wd_596) d_In_numberOfTrailingZeros_20 ?_
    refine lv_icmp_le (tgt := 34) hx hb d_In_numberOfTrailingZeros_23 (by decide) (fun _ => ?_) (fun h0 => absurd (by decide) h0)
    refine lv_iload_n hx hb d_In_numberOfTrailingZeros_34 rfl (lv_at hl 1 rfl) ?_
    refine lv_sipush (v := 256) hx hb d_In_numberOfTrailingZeros_35 (by decide) ?_
    refine lv_icmp_le (tgt := 49) hx hb d_In_numberOfTrailingZeros_38 (by decide) (fun _ => ?_) (fun h0 => absurd (by decide) h0)
    refine lv_iload_n hx hb d_In_numberOfTrailingZeros_49 rfl (lv_at hl 1 rfl) ?_
    refine lv_bipush (v := 16) hx hb d_In_numberOfTrailingZeros_50 (by decide) ?_
    refine lv_icmp_le (tgt := 62) hx hb d_In_numberOfTrailingZeros_52 (by decide) (fun h0 => absurd h0 (by decide)) (fun _ => ?_)
    refine lv_iinc (lv' := [(1, .int 5), (0, .int 127)]) hx hb d_In_numberOfTrailingZeros_55 hl (k := 0) rfl (by decide) (by decide) rfl (fun ls hl => ?_)
    refine lv_iload_n hx hb d_In_numberOfTrailingZeros_58 rfl (lv_at hl 1 rfl) ?_
    refine lv_iconst (v := 4) hx hb d_In_numberOfTrailingZeros_59 (by decide) ?_
    refine lv_iushr (v := 7) hx hb d_In_numberOfTrailingZeros_60 (by decide) ?_
    refine lv_istore_n (lv' := [(0, .int 7), (1, .int 5)]) hx hb d_In_numberOfTrailingZeros_61 rfl hl (by decide) rfl (fun ls hl => ?_)
    refine lv_iload_n hx hb d_In_numberOfTrailingZeros_62 rfl (lv_at hl 0 rfl) ?_
    refine lv_iconst (v := 4) hx hb d_In_numberOfTrailingZeros_63 (by decide) ?_
    refine lv_icmp_le (tgt := 74) hx hb d_In_numberOfTrailingZeros_64 (by decide) (fun h0 => absurd h0 (by decide)) (fun _ => ?_)
    refine lv_iinc (lv' := [(1, .int 7), (0, .int 7)]) hx hb d_In_numberOfTrailingZeros_67 hl (k := 1) rfl (by decide) (by decide) rfl (fun ls hl => ?_)
    refine lv_iload_n hx hb d_In_numberOfTrailingZeros_70 rfl (lv_at hl 1 rfl) ?_
    refine lv_iconst (v := 2) hx hb d_In_numberOfTrailingZeros_71 (by decide) ?_
    refine lv_iushr (v := 1) hx hb d_In_numberOfTrailingZeros_72 (by decide) ?_
    refine lv_istore_n (lv' := [(0, .int 1), (1, .int 7)]) hx hb d_In_numberOfTrailingZeros_73 rfl hl (by decide) rfl (fun ls hl => ?_)
    refine lv_iload_n hx hb d_In_numberOfTrailingZeros_74 rfl (lv_at hl 1 rfl) ?_
    refine lv_iload_n hx hb d_In_numberOfTrailingZeros_75 rfl (lv_at hl 0 rfl) ?_
    refine lv_iconst (v := 1) hx hb d_In_numberOfTrailingZeros_76 (by decide) ?_
    refine lv_iushr (v := 0) hx hb d_In_numberOfTrailingZeros_77 (by decide) ?_
    refine lv_iadd hx hb d_In_numberOfTrailingZeros_78 ?_
    refine lv_topi (fun z43 hz43 => ?_)
    rw [show z43 = 7 from hz43.trans (by decide)]
    exact W.iret (v := 7) hx hb hr (fun t ht hW => ⟨7, rfl, by rw [hk9]; decide, ht⟩) (fun q hq => by cases hq) d_In_numberOfTrailingZeros_79
  · refine tr_top (y := 255) (by rw [hk9]; decide) ?_
    refine lv_istore_n (lv' := [(0, .int 255)]) hx hb d_In_numberOfTrailingZeros_7 rfl hl (by decide) rfl (fun ls hl => ?_)
    refine lv_iload_n hx hb d_In_numberOfTrailingZeros_8 rfl (lv_at hl 0 rfl) ?_
    refine lv_if_gt (tgt := 17) hx hb d_In_numberOfTrailingZeros_9 (by decide) (fun _ => ?_) (fun h0 => absurd (by decide) h0)
    refine lv_iconst (v := 1) hx hb d_In_numberOfTrailingZeros_17 (by decide) ?_
    refine lv_istore_n (lv' := [(1, .int 1), (0, .int 255)]) hx hb d_In_numberOfTrailingZeros_18 rfl hl (by decide) rfl (fun ls hl => ?_)
    refine lv_iload_n hx hb d_In_numberOfTrailingZeros_19 rfl (lv_at hl 1 rfl) ?_
    refine lv_ldcw (v := 65536) hx hb hown (hts _ wd_596) d_In_numberOfTrailingZeros_20 ?_
    refine lv_icmp_le (tgt := 34) hx hb d_In_numberOfTrailingZeros_23 (by decide) (fun _ => ?_) (fun h0 => absurd (by decide) h0)
    refine lv_iload_n hx hb d_In_numberOfTrailingZeros_34 rfl (lv_at hl 1 rfl) ?_
    refine lv_sipush (v := 256) hx hb d_In_numberOfTrailingZeros_35 (by decide) ?_
    refine lv_icmp_le (tgt := 49) hx hb d_In_numberOfTrailingZeros_38 (by decide) (fun _ => ?_) (fun h0 => absurd (by decide) h0)
    refine lv_iload_n hx hb d_In_numberOfTrailingZeros_49 rfl (lv_at hl 1 rfl) ?_
    refine lv_bipush (v := 16) hx hb d_In_numberOfTrailingZeros_50 (by decide) ?_
    refine lv_icmp_le (tgt := 62) hx hb d_In_numberOfTrailingZeros_52 (by decide) (fun h0 => absurd h0 (by decide)) (fun _ => ?_)
    refine lv_iinc (lv' := [(1, .int 5), (0, .int 255)]) hx hb d_In_numberOfTrailingZeros_55 hl (k := 0) rfl (by decide) (by decide) rfl (fun ls hl => ?_)
    refine lv_iload_n hx hb d_In_numberOfTrailingZeros_58 rfl (lv_at hl 1 rfl) ?_
    refine lv_iconst (v := 4) hx hb d_In_numberOfTrailingZeros_59 (by decide) ?_
    refine lv_iushr (v := 15) hx hb d_In_numberOfTrailingZeros_60 (by decide) ?_
    refine lv_istore_n (lv' := [(0, .int 15), (1, .int 5)]) hx hb d_In_numberOfTrailingZeros_61 rfl hl (by decide) rfl (fun ls hl => ?_)
    refine lv_iload_n hx hb d_In_numberOfTrailingZeros_62 rfl (lv_at hl 0 rfl) ?_
    refine lv_iconst (v := 4) hx hb d_In_numberOfTrailingZeros_63 (by decide) ?_
    refine lv_icmp_le (tgt := 74) hx hb d_In_numberOfTrailingZeros_64 (by decide) (fun h0 => absurd h0 (by decide)) (fun _ => ?_)
    refine lv_iinc (lv' := [(1, .int 7), (0, .int 15)]) hx hb d_In_numberOfTrailingZeros_67 hl (k := 1) rfl (by decide) (by decide) rfl (fun ls hl => ?_)
    refine lv_iload_n hx hb d_In_numberOfTrailingZeros_70 rfl (lv_at hl 1 rfl) ?_
    refine lv_iconst (v := 2) hx hb d_In_numberOfTrailingZeros_71 (by decide) ?_
    refine lv_iushr (v := 3) hx hb d_In_numberOfTrailingZeros_72 (by decide) ?_
    refine lv_istore_n (lv' := [(0, .int 3), (1, .int 7)]) hx hb d_In_numberOfTrailingZeros_73 rfl hl (by decide) rfl (fun ls hl => ?_)
    refine lv_iload_n hx hb d_In_numberOfTrailingZeros_74 rfl (lv_at hl 1 rfl) ?_
    refine lv_iload_n hx hb d_In_numberOfTrailingZeros_75 rfl (lv_at hl 0 rfl) ?_
    refine lv_iconst (v := 1) hx hb d_In_numberOfTrailingZeros_76 (by decide) ?_
    refine lv_iushr (v := 1) hx hb d_In_numberOfTrailingZeros_77 (by decide) ?_
    refine lv_iadd hx hb d_In_numberOfTrailingZeros_78 ?_
    refine lv_topi (fun z49 hz49 => ?_)
    rw [show z49 = 8 from hz49.trans (by decide)]
    exact W.iret (v := 8) hx hb hr (fun t ht hW => ⟨8, rfl, by rw [hk9]; decide, ht⟩) (fun q hq => by cases hq) d_In_numberOfTrailingZeros_79
  · refine tr_top (y := 511) (by rw [hk9]; decide) ?_
    refine lv_istore_n (lv' := [(0, .int 511)]) hx hb d_In_numberOfTrailingZeros_7 rfl hl (by decide) rfl (fun ls hl => ?_)
    refine lv_iload_n hx hb d_In_numberOfTrailingZeros_8 rfl (lv_at hl 0 rfl) ?_
    refine lv_if_gt (tgt := 17) hx hb d_In_numberOfTrailingZeros_9 (by decide) (fun _ => ?_) (fun h0 => absurd (by decide) h0)
    refine lv_iconst (v := 1) hx hb d_In_numberOfTrailingZeros_17 (by decide) ?_
    refine lv_istore_n (lv' := [(1, .int 1), (0, .int 511)]) hx hb d_In_numberOfTrailingZeros_18 rfl hl (by decide) rfl (fun ls hl => ?_)
    refine lv_iload_n hx hb d_In_numberOfTrailingZeros_19 rfl (lv_at hl 1 rfl) ?_
    refine lv_ldcw (v := 65536) hx hb hown (hts _ wd_596) d_In_numberOfTrailingZeros_20 ?_
    refine lv_icmp_le (tgt := 34) hx hb d_In_numberOfTrailingZeros_23 (by decide) (fun _ => ?_) (fun h0 => absurd (by decide) h0)
    refine lv_iload_n hx hb d_In_numberOfTrailingZeros_34 rfl (lv_at hl 1 rfl) ?_
    refine lv_sipush (v := 256) hx hb d_In_numberOfTrailingZeros_35 (by decide) ?_
    refine lv_icmp_le (tgt := 49) hx hb d_In_numberOfTrailingZeros_38 (by decide) (fun h0 => absurd h0 (by decide)) (fun _ => ?_)
    refine lv_iinc (lv' := [(1, .int 9), (0, .int 511)]) hx hb d_In_numberOfTrailingZeros_41 hl (k := 0) rfl (by decide) (by decide) rfl (fun ls hl => ?_)
    refine lv_iload_n hx hb d_In_numberOfTrailingZeros_44 rfl (lv_at hl 1 rfl) ?_
    refine lv_bipush (v := 8) hx hb d_In_numberOfTrailingZeros_45 (by decide) ?_
    refine lv_iushr (v := 1) hx hb d_In_numberOfTrailingZeros_47 (by decide) ?_
    refine lv_istore_n (lv' := [(0, .int 1), (1, .int 9)]) hx hb d_In_numberOfTrailingZeros_48 rfl hl (by decide) rfl (fun ls hl => ?_)
    refine lv_iload_n hx hb d_In_numberOfTrailingZeros_49 rfl (lv_at hl 0 rfl) ?_
    refine lv_bipush (v := 16) hx hb d_In_numberOfTrailingZeros_50 (by decide) ?_
    refine lv_icmp_le (tgt := 62) hx hb d_In_numberOfTrailingZeros_52 (by decide) (fun _ => ?_) (fun h0 => absurd (by decide) h0)
    refine lv_iload_n hx hb d_In_numberOfTrailingZeros_62 rfl (lv_at hl 0 rfl) ?_
    refine lv_iconst (v := 4) hx hb d_In_numberOfTrailingZeros_63 (by decide) ?_
    refine lv_icmp_le (tgt := 74) hx hb d_In_numberOfTrailingZeros_64 (by decide) (fun _ => ?_) (fun h0 => absurd (by decide) h0)
    refine lv_iload_n hx hb d_In_numberOfTrailingZeros_74 rfl (lv_at hl 1 rfl) ?_
    refine lv_iload_n hx hb d_In_numberOfTrailingZeros_75 rfl (lv_at hl 0 rfl) ?_
    refine lv_iconst (v := 1) hx hb d_In_numberOfTrailingZeros_76 (by decide) ?_
    refine lv_iushr (v := 0) hx hb d_In_numberOfTrailingZeros_77 (by decide) ?_
    refine lv_iadd hx hb d_In_numberOfTrailingZeros_78 ?_
    refine lv_topi (fun z55 hz55 => ?_)
    rw [show z55 = 9 from hz55.trans (by decide)]
    exact W.iret (v := 9) hx hb hr (fun t ht hW => ⟨9, rfl, by rw [hk9]; decide, ht⟩) (fun q hq => by cases hq) d_In_numberOfTrailingZeros_79
  · refine tr_top (y := 1023) (by rw [hk9]; decide) ?_
    refine lv_istore_n (lv' := [(0, .int 1023)]) hx hb d_In_numberOfTrailingZeros_7 rfl hl (by decide) rfl (fun ls hl => ?_)
    refine lv_iload_n hx hb d_In_numberOfTrailingZeros_8 rfl (lv_at hl 0 rfl) ?_
    refine lv_if_gt (tgt := 17) hx hb d_In_numberOfTrailingZeros_9 (by decide) (fun _ => ?_) (fun h0 => absurd (by decide) h0)
    refine lv_iconst (v := 1) hx hb d_In_numberOfTrailingZeros_17 (by decide) ?_
    refine lv_istore_n (lv' := [(1, .int 1), (0, .int 1023)]) hx hb d_In_numberOfTrailingZeros_18 rfl hl (by decide) rfl (fun ls hl => ?_)
    refine lv_iload_n hx hb d_In_numberOfTrailingZeros_19 rfl (lv_at hl 1 rfl) ?_
    refine lv_ldcw (v := 65536) hx hb hown (hts _ wd_596) d_In_numberOfTrailingZeros_20 ?_
    refine lv_icmp_le (tgt := 34) hx hb d_In_numberOfTrailingZeros_23 (by decide) (fun _ => ?_) (fun h0 => absurd (by decide) h0)
    refine lv_iload_n hx hb d_In_numberOfTrailingZeros_34 rfl (lv_at hl 1 rfl) ?_
    refine lv_sipush (v := 256) hx hb d_In_numberOfTrailingZeros_35 (by decide) ?_
    refine lv_icmp_le (tgt := 49) hx hb d_In_numberOfTrailingZeros_38 (by decide) (fun h0 => absurd h0 (by decide)) (fun _ => ?_)
    refine lv_iinc (lv' := [(1, .int 9), (0, .int 1023)]) hx hb d_In_numberOfTrailingZeros_41 hl (k := 0) rfl (by decide) (by decide) rfl (fun ls hl => ?_)
    refine lv_iload_n hx hb d_In_numberOfTrailingZeros_44 rfl (lv_at hl 1 rfl) ?_
    refine lv_bipush (v := 8) hx hb d_In_numberOfTrailingZeros_45 (by decide) ?_
    refine lv_iushr (v := 3) hx hb d_In_numberOfTrailingZeros_47 (by decide) ?_
    refine lv_istore_n (lv' := [(0, .int 3), (1, .int 9)]) hx hb d_In_numberOfTrailingZeros_48 rfl hl (by decide) rfl (fun ls hl => ?_)
    refine lv_iload_n hx hb d_In_numberOfTrailingZeros_49 rfl (lv_at hl 0 rfl) ?_
    refine lv_bipush (v := 16) hx hb d_In_numberOfTrailingZeros_50 (by decide) ?_
    refine lv_icmp_le (tgt := 62) hx hb d_In_numberOfTrailingZeros_52 (by decide) (fun _ => ?_) (fun h0 => absurd (by decide) h0)
    refine lv_iload_n hx hb d_In_numberOfTrailingZeros_62 rfl (lv_at hl 0 rfl) ?_
    refine lv_iconst (v := 4) hx hb d_In_numberOfTrailingZeros_63 (by decide) ?_
    refine lv_icmp_le (tgt := 74) hx hb d_In_numberOfTrailingZeros_64 (by decide) (fun _ => ?_) (fun h0 => absurd (by decide) h0)
    refine lv_iload_n hx hb d_In_numberOfTrailingZeros_74 rfl (lv_at hl 1 rfl) ?_
    refine lv_iload_n hx hb d_In_numberOfTrailingZeros_75 rfl (lv_at hl 0 rfl) ?_
    refine lv_iconst (v := 1) hx hb d_In_numberOfTrailingZeros_76 (by decide) ?_
    refine lv_iushr (v := 1) hx hb d_In_numberOfTrailingZeros_77 (by decide) ?_
    refine lv_iadd hx hb d_In_numberOfTrailingZeros_78 ?_
    refine lv_topi (fun z61 hz61 => ?_)
    rw [show z61 = 10 from hz61.trans (by decide)]
    exact W.iret (v := 10) hx hb hr (fun t ht hW => ⟨10, rfl, by rw [hk9]; decide, ht⟩) (fun q hq => by cases hq) d_In_numberOfTrailingZeros_79
  · refine tr_top (y := 2047) (by rw [hk9]; decide) ?_
    refine lv_istore_n (lv' := [(0, .int 2047)]) hx hb d_In_numberOfTrailingZeros_7 rfl hl (by decide) rfl (fun ls hl => ?_)
    refine lv_iload_n hx hb d_In_numberOfTrailingZeros_8 rfl (lv_at hl 0 rfl) ?_
    refine lv_if_gt (tgt := 17) hx hb d_In_numberOfTrailingZeros_9 (by decide) (fun _ => ?_) (fun h0 => absurd (by decide) h0)
    refine lv_iconst (v := 1) hx hb d_In_numberOfTrailingZeros_17 (by decide) ?_
    refine lv_istore_n (lv' := [(1, .int 1), (0, .int 2047)]) hx hb d_In_numberOfTrailingZeros_18 rfl hl (by decide) rfl (fun ls hl => ?_)
    refine lv_iload_n hx hb d_In_numberOfTrailingZeros_19 rfl (lv_at hl 1 rfl) ?_
    refine lv_ldcw (v := 65536) hx hb hown (hts _ wd_596) d_In_numberOfTrailingZeros_20 ?_
    refine lv_icmp_le (tgt := 34) hx hb d_In_numberOfTrailingZeros_23 (by decide) (fun _ => ?_) (fun h0 => absurd (by decide) h0)
    refine lv_iload_n hx hb d_In_numberOfTrailingZeros_34 rfl (lv_at hl 1 rfl) ?_
    refine lv_sipush (v := 256) hx hb d_In_numberOfTrailingZeros_35 (by decide) ?_
    refine lv_icmp_le (tgt := 49) hx hb d_In_numberOfTrailingZeros_38 (by decide) (fun h0 => absurd h0 (by decide)) (fun _ => ?_)
    refine lv_iinc (lv' := [(1, .int 9), (0, .int 2047)]) hx hb d_In_numberOfTrailingZeros_41 hl (k := 0) rfl (by decide) (by decide) rfl (fun ls hl => ?_)
    refine lv_iload_n hx hb d_In_numberOfTrailingZeros_44 rfl (lv_at hl 1 rfl) ?_
    refine lv_bipush (v := 8) hx hb d_In_numberOfTrailingZeros_45 (by decide) ?_
    refine lv_iushr (v := 7) hx hb d_In_numberOfTrailingZeros_47 (by decide) ?_
    refine lv_istore_n (lv' := [(0, .int 7), (1, .int 9)]) hx hb d_In_numberOfTrailingZeros_48 rfl hl (by decide) rfl (fun ls hl => ?_)
    refine lv_iload_n hx hb d_In_numberOfTrailingZeros_49 rfl (lv_at hl 0 rfl) ?_
    refine lv_bipush (v := 16) hx hb d_In_numberOfTrailingZeros_50 (by decide) ?_
    refine lv_icmp_le (tgt := 62) hx hb d_In_numberOfTrailingZeros_52 (by decide) (fun _ => ?_) (fun h0 => absurd (by decide) h0)
    refine lv_iload_n hx hb d_In_numberOfTrailingZeros_62 rfl (lv_at hl 0 rfl) ?_
    refine lv_iconst (v := 4) hx hb d_In_numberOfTrailingZeros_63 (by decide) ?_
    refine lv_icmp_le (tgt := 74) hx hb d_In_numberOfTrailingZeros_64 (by decide) (fun h0 => absurd h0 (by decide)) (fun _ => ?_)
    refine lv_iinc (lv' := [(1, .int 11), (0, .int 7)]) hx hb d_In_numberOfTrailingZeros_67 hl (k := 1) rfl (by decide) (by decide) rfl (fun ls hl => ?_)
    refine lv_iload_n hx hb d_In_numberOfTrailingZeros_70 rfl (lv_at hl 1 rfl) ?_
    refine lv_iconst (v := 2) hx hb d_In_numberOfTrailingZeros_71 (by decide) ?_
    refine lv_iushr (v := 1) hx hb d_In_numberOfTrailingZeros_72 (by decide) ?_
    refine lv_istore_n (lv' := [(0, .int 1), (1, .int 11)]) hx hb d_In_numberOfTrailingZeros_73 rfl hl (by decide) rfl (fun ls hl => ?_)
    refine lv_iload_n hx hb d_In_numberOfTrailingZeros_74 rfl (lv_at hl 1 rfl) ?_
    refine lv_iload_n hx hb d_In_numberOfTrailingZeros_75 rfl (lv_at hl 0 rfl) ?_
    refine lv_iconst (v := 1) hx hb d_In_numberOfTrailingZeros_76 (by decide) ?_
    refine lv_iushr (v := 0) hx hb d_In_numberOfTrailingZeros_77 (by decide) ?_
    refine lv_iadd hx hb d_In_numberOfTrailingZeros_78 ?_
    refine lv_topi (fun z67 hz67 => ?_)
    rw [show z67 = 11 from hz67.trans (by decide)]
    exact W.iret (v := 11) hx hb hr (fun t ht hW => ⟨11, rfl, by rw [hk9]; decide, ht⟩) (fun q hq => by cases hq) d_In_numberOfTrailingZeros_79
  · refine tr_top (y := (-1)) (by rw [hk9]; decide) ?_
    refine lv_istore_n (lv' := [(0, .int (-1))]) hx hb d_In_numberOfTrailingZeros_7 rfl hl (by decide) rfl (fun ls hl => ?_)
    refine lv_iload_n hx hb d_In_numberOfTrailingZeros_8 rfl (lv_at hl 0 rfl) ?_
    refine lv_if_gt (tgt := 17) hx hb d_In_numberOfTrailingZeros_9 (by decide) (fun h0 => absurd h0 (by decide)) (fun _ => ?_)
    refine lv_iload_n hx hb d_In_numberOfTrailingZeros_12 rfl (lv_at hl 0 rfl) ?_
    refine lv_bipush (v := 32) hx hb d_In_numberOfTrailingZeros_13 (by decide) ?_
    refine lv_iand hx hb d_In_numberOfTrailingZeros_15 ?_
    exact W.iret (v := (-1) &&& 32) hx hb hr (fun t ht hW => ⟨(-1) &&& 32, rfl, by rw [hk9]; decide, ht⟩) (fun q hq => by cases hq) d_In_numberOfTrailingZeros_16
